import java.lang.reflect.Field;
import java.lang.reflect.Method;
import java.lang.reflect.Modifier;
import java.nio.file.Files;
import java.nio.file.Path;
import java.util.ArrayList;
import java.util.HashSet;
import java.util.List;
import java.util.Set;
import java.util.regex.Matcher;
import java.util.regex.Pattern;

/** The rules of LANGUAGE.md that a look at the source and at the compiled class can tell. */
final class RulesTest {
    private static final Check check = new Check();

    private static final String[] NOT_ALLOWED = {"throw", "throws", "try", "catch", "finally", "synchronized", "assert",
        "package", "import", "native", "volatile", "transient", "Object", "double", "float", "protected", "Thread",
        "Random", "equals", "hashCode", "Exception", "Error", "Integer", "Long"};

    private static final String[] FACE = {"hand", "put", "pair", "strip", "of", "wheel", "drop", "teeth", "terms", "feed",
        "end", "row", "bent", "law", "fault", "force", "rate", "shows", "should", "wrong", "off", "nearest", "near",
        "mount", "cam", "sight", "forget", "inside", "gone", "together", "knob", "push", "set", "worn", "shared",
        "storm", "stormed", "image", "back", "count", "status"};

    public static void main(String[] args) throws Exception {
        String source = Files.readString(Path.of(args.length > 0 ? args[0] : "src/main/java/WheelYear.java"));
        words(source);
        loops(source);
        methodLengths(source);
        face();
        classes();
        check.end("RulesTest");
    }

    private static String withoutCommentsAndTexts(String source) {
        return source.replaceAll("(?s)/\\*.*?\\*/", " ").replaceAll("//[^\n]*", " ").replaceAll("\"[^\"\n]*\"", "\"\"")
                .replaceAll("'[^'\n]*'", "' '");
    }

    private static void words(String source) {
        String code = withoutCommentsAndTexts(source);
        for (String word : NOT_ALLOWED) {
            check.due("the word " + word, !Pattern.compile("\\b" + word + "\\b").matcher(code).find());
        }
        check.due("no lambda", !code.contains("->"));
        check.due("no method reference", !code.contains("::"));
        check.due("no annotation", !code.contains("@"));
        check.due("no function ending in Exact", !Pattern.compile("Exact\\b").matcher(code).find());
        check.due("no texts joined by +", !Pattern.compile("\"\"\\s*\\+|\\+\\s*\"\"").matcher(code).find());
        check.due("signs of the source", source.chars().allMatch(c -> c == '\n' || (c >= 32 && c < 127)));
        Matcher library = Pattern.compile("\\b(Math|System|Arrays)\\.(\\w+)").matcher(code);
        Set<String> allowed = Set.of("Math.abs", "Math.min", "Math.max", "System.arraycopy");
        while (library.find()) {
            check.due("library: " + library.group(), allowed.contains(library.group()));
        }
    }

    private static void loops(String source) {
        check.due("loops that count", !Pattern.compile("\\bwhile\\b|\\bdo\\b").matcher(withoutCommentsAndTexts(source)).find());
        Matcher loop = Pattern.compile("for \\(([^;]*);([^;]*);([^\n]*)\\) \\{").matcher(source);
        int found = 0;
        while (loop.find()) {
            found++;
            check.due("bound of " + loop.group(), loop.group(2).contains("<") || loop.group(2).contains(">"));
        }
        check.due("loops", found > 20);
    }

    private static void methodLengths(String source) {
        String[] lines = source.split("\n");
        int methods = 0;
        for (int i = 0; i < lines.length; i++) {
            if (lines[i].matches(" {4}( {4})?[a-z].*\\) \\{") && !lines[i].trim().matches("(for|if|switch|else).*")) {
                String indent = lines[i].substring(0, lines[i].length() - lines[i].stripLeading().length());
                int end = i + 1;
                while (!lines[end].equals(indent + "}")) {
                    end++;
                }
                methods++;
                check.due("length of " + lines[i].trim(), end - i + 1 <= 60);
            }
        }
        check.due("methods looked at", methods > 100);
    }

    private static void face() {
        Set<String> names = Set.of(FACE);
        List<String> found = new ArrayList<>();
        for (Method m : WheelYear.class.getDeclaredMethods()) {
            if (Modifier.isPublic(m.getModifiers())) {
                found.add(m.getName());
            } else {
                check.due("private: " + m.getName(), Modifier.isPrivate(m.getModifiers()));
            }
        }
        check.due("face", found.size(), FACE.length);
        check.due("face", names.equals(new HashSet<>(found)));
        check.due("final", Modifier.isFinal(WheelYear.class.getModifiers()));
        check.due("one constructor", WheelYear.class.getDeclaredConstructors().length, 1);
        for (Field f : WheelYear.class.getDeclaredFields()) {
            check.due("field " + f.getName(), f.getName().equals("NONE") || Modifier.isPrivate(f.getModifiers()));
        }
    }

    private static void classes() {
        Set<String> names = Set.of(FACE);
        List<Class<?>> all = new ArrayList<>(List.of(WheelYear.class.getDeclaredClasses()));
        check.due("classes", all.size() <= 12);
        all.add(WheelYear.class);
        for (Class<?> c : all) {
            boolean outer = c == WheelYear.class;
            check.due("static: " + c, outer || (Modifier.isStatic(c.getModifiers()) && Modifier.isPrivate(c.getModifiers())));
            int fields = 0;
            for (Field f : c.getDeclaredFields()) {
                boolean isStatic = Modifier.isStatic(f.getModifiers());
                fields += isStatic ? 0 : 1;
                check.due("static fields are final: " + f, !isStatic || Modifier.isFinal(f.getModifiers()));
            }
            check.due("fields of " + c, fields <= 20);
            for (Method m : c.getDeclaredMethods()) {
                boolean open = outer && Modifier.isPublic(m.getModifiers());
                check.due("name of " + m, open || !names.contains(m.getName()));
                check.due("parameters of " + m, m.getParameterCount() <= 7);
            }
        }
    }
}
