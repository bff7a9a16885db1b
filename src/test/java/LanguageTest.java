import java.lang.reflect.Constructor;
import java.lang.reflect.Field;
import java.lang.reflect.Method;
import java.lang.reflect.Modifier;
import java.nio.file.Files;
import java.nio.file.Path;
import java.util.ArrayList;
import java.util.List;
import java.util.Set;
import java.util.TreeSet;

/** The rules of LANGUAGE.md that can be seen from outside: the face, forbidden words, long methods, new objects. */
public final class LanguageTest {
    static final Due due = new Due("LanguageTest");
    static final String[] FACE = {"write 1", "wipe 0", "fault 0", "lay 0", "tree 2", "value 3", "table 3", "rule 2", "piece 2",
        "enter 1", "cut 1", "shift 2", "leaf 3", "flip 3", "rename 2", "undo 0", "out 4", "both 2", "one 2", "linear 2",
        "visits 3", "comes 1", "least 3", "total 3", "typed 3", "keep 0", "back 0", "count 1"};
    static final String[] FORBIDDEN = {"throw", "throws", "try", "catch", "finally", "synchronized", "assert", "protected", "volatile",
        "native", "System.out", "double", "float", "instanceof", "var", "Exact", "random", "Random", "Thread", "equals", "hashCode",
        "toString", "String.valueOf"};

    static void face() {
        Set<String> face = new TreeSet<>(List.of(FACE));
        Set<String> names = new TreeSet<>();
        for (String f : FACE) {
            names.add(f.substring(0, f.indexOf(' ')));
        }
        Set<String> got = new TreeSet<>();
        for (Method m : TreePasses.class.getDeclaredMethods()) {
            if (Modifier.isPublic(m.getModifiers())) {
                got.add(m.getName() + " " + m.getParameterCount());
                due.isTrue(m + " answers an int", m.getReturnType() == int.class);
            } else {
                due.isTrue(m + " is private", Modifier.isPrivate(m.getModifiers()));
                due.isTrue(m + " has a name of its own", !names.contains(m.getName()));
            }
        }
        due.isTrue("the face is " + got, got.equals(face));
        Constructor<?>[] makers = TreePasses.class.getDeclaredConstructors();
        due.isTrue("one constructor", makers.length == 1 && makers[0].getParameterCount() == 0);
        due.isTrue("public and final", TreePasses.class.getModifiers() == (Modifier.PUBLIC | Modifier.FINAL));
        fields();
        for (Class<?> inside : TreePasses.class.getDeclaredClasses()) {
            due.isTrue(inside + " is static", Modifier.isStatic(inside.getModifiers()));
            for (Method m : inside.getDeclaredMethods()) {
                due.isTrue(m + " has a name of its own", !names.contains(m.getName()));
                due.isTrue(m + " takes seven at most", m.getParameterCount() <= 7);
            }
        }
        due.isTrue("twelve classes at most", TreePasses.class.getDeclaredClasses().length < 12);
    }

    static void fields() {
        Set<String> open = new TreeSet<>();
        for (Field f : TreePasses.class.getDeclaredFields()) {
            int is = f.getModifiers();
            if (Modifier.isPublic(is)) {
                open.add(f.getName());
            } else {
                due.isTrue(f + " is private", Modifier.isPrivate(is));
            }
            due.isTrue(f + " is final", Modifier.isFinal(is));
        }
        due.isTrue("the constants are " + open, open.equals(Set.of("BAD", "NO", "FULL", "NONE")));
    }

    static void words(List<String> lines) {
        for (String line : lines) {
            String code = line.replaceAll("\"[^\"]*\"", "\"\"").replaceAll("'.'", "' '").replaceAll("//.*", "").trim();
            if (code.startsWith("*") || code.startsWith("/*")) {
                continue;
            }
            for (String word : FORBIDDEN) {
                due.isTrue(word + " in: " + line, !code.matches(".*\\b" + word.replace(".", "\\.") + "\\b.*"));
            }
            due.isTrue("an arrow or :: in: " + line, !code.contains("->") && !code.contains("::"));
            due.isTrue("an import: " + line, !code.startsWith("import") || code.equals("import java.util.Arrays;"));
            due.isTrue("texts joined by +: " + line, !code.contains("\"\" +") && !code.contains("+ \"\""));
            boolean made = code.startsWith("private final ") || code.startsWith("programs = ") || code.startsWith("programs[i] = ");
            due.isTrue("new outside of a constructor: " + line, !code.contains("new ") || made);
            for (char sign : line.toCharArray()) {
                due.isTrue("ASCII: " + line, sign < 128);
            }
        }
    }

    static void lengths(List<String> lines) {
        int start = -1;
        String indent = "";
        for (int i = 0; i < lines.size(); i++) {
            String line = lines.get(i);
            if (start < 0 && line.matches(" {4,8}[^ ].*\\) \\{")) {
                start = i;
                indent = line.substring(0, line.indexOf(line.trim()));
            } else if (start >= 0 && line.equals(indent + "}")) {
                due.isTrue("sixty lines at most: " + lines.get(start), i - start < 60);
                start = -1;
            }
        }
    }

    public static void main(String[] args) throws Exception {
        List<String> lines = new ArrayList<>(Files.readAllLines(Path.of("src/main/java/TreePasses.java")));
        face();
        words(lines);
        lengths(lines);
        due.end();
    }
}
