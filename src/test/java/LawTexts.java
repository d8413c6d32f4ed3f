import java.util.Random;

/** Texts for THE TAPE by draws: most are laws, some have one byte too few, too many, or another one. */
final class LawTexts {
    private static final String SIGNS = "0123456789tkswnb|&<=>+-*/%!()?; x";

    private LawTexts() {
    }

    static String drawn(Random random) {
        StringBuilder text = new StringBuilder(line(random));
        for (int i = random.nextInt(3); i > 0; i--) {
            text.append(';').append(line(random));
        }
        if (random.nextInt(3) == 0 && text.length() > 1) {
            int at = random.nextInt(text.length());
            char sign = random.nextInt(20) == 0 ? (char) random.nextInt(256) : SIGNS.charAt(random.nextInt(SIGNS.length()));
            switch (random.nextInt(4)) {
                case 0 -> text.setCharAt(at, sign);
                case 1 -> text.insert(at, sign);
                case 2 -> text.deleteCharAt(at);
                default -> text.setLength(at);
            }
        }
        return text.length() > 120 ? text.substring(0, 120) : text.toString();
    }

    private static String line(Random random) {
        String e = level(random, 0, 0);
        return random.nextInt(3) == 0 ? e + "?" + level(random, 0, 0) : e;
    }

    private static String level(Random random, int level, int open) {
        if (level == 5) {
            return operand(random, open);
        }
        String signs = new String[] {"|", "&", "<=>", "+-", "*/%"}[level];
        StringBuilder text = new StringBuilder(level(random, level + 1, open));
        int most = level == 2 ? 1 : 2;
        for (int i = 0; i < most && random.nextInt(level < 2 ? 10 : 4) == 0; i++) {
            text.append(signs.charAt(random.nextInt(signs.length()))).append(level(random, level + 1, open));
        }
        return text.toString();
    }

    private static String operand(Random random, int open) {
        int kind = random.nextInt(12);
        if (kind < 3 && open < 7) {
            if (random.nextInt(20) == 0) {
                return random.nextBoolean() ? "!!!!!!t" : "-(-(!!k))";
            }
            return switch (kind) {
                case 0 -> "(" + level(random, 0, open + 1) + ")";
                case 1 -> "!" + operand(random, open + 1);
                default -> "-" + operand(random, open + 1);
            };
        }
        if (kind < 7) {
            return String.valueOf(random.nextInt(random.nextInt(4) == 0 ? 10000 : 20));
        }
        return String.valueOf("tkswnb".charAt(random.nextInt(6)));
    }
}
