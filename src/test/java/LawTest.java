import java.util.HashMap;
import java.util.Map;
import java.util.Random;

/** Many texts by draws: the FAULT and what THE LAW gives, held against LawModel. */
public final class LawTest {
    private static final int TEXTS = 40000;
    private static final String SIGNS = "12345tkswnb|&<=>+-*/%!(((()))?;";

    private LawTest() {
    }

    public static void main(String[] args) {
        Random random = new Random(7L);
        int wrong = 0;
        int good = 0;
        for (int i = 0; i < TEXTS && wrong < 20; i++) {
            String text = i % 2 == 0 ? LawTexts.drawn(random) : loose(random);
            EndTooLong x = new EndTooLong();
            int due = LawModel.fault(text.chars().toArray());
            int got = tell(x, text);
            if (got != (due < 0 ? 1 : -100 - due)) {
                wrong++;
                System.out.println(text + " answered " + got + ", its fault is " + due);
            } else if (due < 0) {
                good++;
                wrong += wrongValues(x, text, random);
            }
        }
        if (good < TEXTS / 4) {
            wrong++;
            System.out.println("only " + good + " texts were laws: the draws test too little");
        }
        System.out.println(wrong == 0 ? "all laws are as due" : wrong + " answers are not as due");
        if (wrong != 0) {
            System.exit(1);
        }
    }

    private static String loose(Random random) {
        StringBuilder text = new StringBuilder();
        for (int i = random.nextInt(8); i >= 0; i--) {
            text.append(SIGNS.charAt(random.nextInt(SIGNS.length())));
        }
        return text.toString();
    }

    private static int tell(EndTooLong x, String text) {
        for (int i = 0; i < text.length(); i++) {
            x.feed(text.charAt(i));
        }
        return x.law();
    }

    private static int wrongValues(EndTooLong x, String text, Random random) {
        x.tie(100, 1);
        Map<Character, Integer> names = new HashMap<>();
        int wrong = 0;
        for (int i = 0; i < 4; i++) {
            names.put('t', 1 + random.nextInt(9));
            names.put('s', random.nextInt(10));
            names.put('w', random.nextInt(100));
            names.put('k', 1 + random.nextInt(9));
            names.put('n', 20 + random.nextInt(41));
            names.put('b', random.nextInt(201));
            x.mend(0, 1, names.get('t'));
            x.mend(0, 2, names.get('s'));
            x.mend(0, 4, names.get('w'));
            x.mend(3, 5, names.get('k'));
            x.mend(0, 6, names.get('n'));
            int got = x.hangs(3, names.get('b'), 3);
            int due = Math.max(0, Math.min(60, LawModel.value(text, names)));
            if (got != due) {
                wrong++;
                System.out.println(text + " with " + names + " gave " + got + ", due is " + due);
            }
        }
        return wrong;
    }
}
