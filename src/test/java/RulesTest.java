import java.lang.reflect.Constructor;
import java.lang.reflect.Field;
import java.lang.reflect.Method;
import java.lang.reflect.Modifier;
import java.nio.file.Files;
import java.nio.file.Path;
import java.util.ArrayList;
import java.util.List;
import java.util.Set;
import java.util.TreeSet;
import java.util.regex.Matcher;
import java.util.regex.Pattern;

/** The rules of LANGUAGE.md that can be seen from the source and the classes; run from the project's folder. */
public final class RulesTest {
    private static final String FACE = "tie ties tier mend of feed law hangs where knot correct share bow stain hide fit "
        + "wear takes six order taxi oneMore judge which began thickness drawn tieOn untie led image back undo redo body "
        + "act trace keep row put element shift taken count";
    private static final String[] FORBIDDEN = {
        "\\bthrow\\b", "\\bthrows\\b", "\\btry\\b", "\\bcatch\\b", "\\bsynchronized\\b", "\\bassert\\b", "->", "::",
        "\\bequals\\b", "\\bhashCode\\b", "\\btoString\\b", "Exact\\b", "\\bthis\\)\\s*;\\s*$", "\\bprotected\\b",
        "\\bstatic\\s*\\{", "\\bgoto\\b", "\\bThread\\b", "\\bRandom\\b", "@",
    };
    private static final Set<String> LIBRARY = Set.of("Math.max", "Math.min", "Math.abs", "Arrays.fill", "System.arraycopy");
    private int wrong;

    private RulesTest() {
    }

    public static void main(String[] args) throws Exception {
        RulesTest test = new RulesTest();
        String source = Files.readString(Path.of("src/main/java/EndTooLong.java"));
        test.source(source);
        test.face();
        for (Class<?> one : test.classes()) {
            test.members(one);
        }
        System.out.println(test.wrong == 0 ? "all rules are kept" : test.wrong + " rules are broken");
        if (test.wrong != 0) {
            System.exit(1);
        }
    }

    private void broken(String rule, String what) {
        wrong++;
        System.out.println(rule + ": " + what);
    }

    private void source(String source) {
        for (int i = 0; i < source.length(); i++) {
            if (source.charAt(i) > 126) {
                broken("rule 4", "a sign beyond 127 at " + i);
            }
        }
        String code = source.replaceAll("(?s)/\\*.*?\\*/", " ").replaceAll("//[^\n]*", " ");
        for (String word : FORBIDDEN) {
            if (Pattern.compile(word).matcher(code).find()) {
                broken("rule 6", word);
            }
        }
        Matcher imports = Pattern.compile("import ([^;]*);").matcher(code);
        while (imports.find()) {
            if (!imports.group(1).equals("java.util.Arrays")) {
                broken("rule 4", imports.group(1));
            }
        }
        Matcher calls = Pattern.compile("\\b(Math|Arrays|System|Integer|Long|String|Character)\\.(\\w+)").matcher(code);
        while (calls.find()) {
            if (!LIBRARY.contains(calls.group())) {
                broken("rule 4", calls.group());
            }
        }
        methods(source);
    }

    private void methods(String source) {
        String[] lines = source.split("\n");
        for (int i = 0; i < lines.length; i++) {
            Matcher head = Pattern.compile("^( {4}| {8})\\S.*\\((.*)\\) \\{$").matcher(lines[i]);
            if (!head.matches()) {
                continue;
            }
            if (head.group(2).split(",").length > 7) {
                broken("rule 11", lines[i]);
            }
            int end = i;
            while (!lines[end].equals(head.group(1) + "}")) {
                end++;
            }
            if (end - i > 60) {
                broken("rule 11", (end - i) + " lines: " + lines[i]);
            }
        }
    }

    private List<Class<?>> classes() {
        List<Class<?>> all = new ArrayList<>();
        all.add(EndTooLong.class);
        all.addAll(List.of(EndTooLong.class.getDeclaredClasses()));
        if (all.size() > 12) {
            broken("rule 11", all.size() + " classes");
        }
        return all;
    }

    private void face() {
        Set<String> due = new TreeSet<>(List.of(FACE.split(" ")));
        Set<String> found = new TreeSet<>();
        for (Method method : EndTooLong.class.getDeclaredMethods()) {
            if (Modifier.isPublic(method.getModifiers())) {
                found.add(method.getName());
            } else if (!Modifier.isPrivate(method.getModifiers())) {
                broken("rule 1", method.toString());
            }
        }
        if (!due.equals(found)) {
            broken("rule 1", "the face is " + found);
        }
        for (Constructor<?> one : EndTooLong.class.getDeclaredConstructors()) {
            if (!Modifier.isPublic(one.getModifiers()) || one.getParameterCount() != 0) {
                broken("rule 1", one.toString());
            }
        }
        Set<String> constants = Set.of("BAD", "NOT", "FULL", "STATE", "VOID");
        for (Field field : EndTooLong.class.getDeclaredFields()) {
            boolean isPublic = Modifier.isPublic(field.getModifiers());
            if (isPublic != constants.contains(field.getName()) || !isPublic && !Modifier.isPrivate(field.getModifiers())) {
                broken("rule 1", field.toString());
            }
        }
        if (!Modifier.isFinal(EndTooLong.class.getModifiers())) {
            broken("rule 1", "the class is not final");
        }
    }

    private void members(Class<?> one) {
        Set<String> face = Set.of(FACE.split(" "));
        int fields = 0;
        for (Field field : one.getDeclaredFields()) {
            boolean isStatic = Modifier.isStatic(field.getModifiers());
            if (isStatic && !Modifier.isFinal(field.getModifiers())) {
                broken("rule 5", field.toString());
            }
            fields += isStatic ? 0 : 1;
        }
        if (fields > 20) {
            broken("rule 11", fields + " fields in " + one);
        }
        for (Method method : one.getDeclaredMethods()) {
            if (!Modifier.isPublic(method.getModifiers()) && face.contains(method.getName())) {
                broken("rule 1", method.toString());
            }
        }
        if (one != EndTooLong.class && !Modifier.isStatic(one.getModifiers())) {
            broken("rule 2", one.toString());
        }
    }
}
