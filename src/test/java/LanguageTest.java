import java.io.IOException;
import java.lang.reflect.Constructor;
import java.lang.reflect.Field;
import java.lang.reflect.Method;
import java.lang.reflect.Modifier;
import java.nio.file.Files;
import java.nio.file.Path;
import java.util.ArrayList;
import java.util.Arrays;
import java.util.List;
import java.util.Map;
import java.util.Set;
import java.util.TreeMap;
import java.util.TreeSet;
import java.util.regex.Matcher;
import java.util.regex.Pattern;

/**
 * The rules of ../shared/LANGUAGE.md that can be told from the class and its source; the number of the rule is told with
 * what breaks it. It is run from the project's folder.
 */
public final class LanguageTest {

    private static final Path SOURCE = Path.of("src/main/java/DaughterTongues.java");
    private static final Path DOCUMENT = Path.of("../shared/DOC.md");
    private static final int MOST_LINES = 60;
    private static final int MOST_DEEP = 8;
    /** Four or eight blanks deep; the method ends with the brace that stands as deep. */
    private static final Pattern METHOD_HEAD =
        Pattern.compile("( {4}| {8})(?! )(?!for |if |while |switch )[\\w\\[\\] ]*?(\\w+)\\([^)]*\\) \\{");

    private static int broken;

    public static void main(String[] args) throws IOException {
        String source = Files.readString(SOURCE);
        String bare = withoutTexts(source);
        checkFace();
        checkClasses();
        checkWords(bare);
        checkLoops(bare);
        checkMethods(bare);
        expect(source.chars().allMatch(c -> c < 128), 4, "a sign that is not 1 to 127");
        System.out.println(broken == 0 ? "the rules of the language are kept" : broken + " rules are broken");
        System.exit(broken == 0 ? 0 : 1);
    }

    private static void expect(boolean isKept, int rule, String what) {
        if (!isKept) {
            broken++;
            System.out.println("rule " + rule + ": " + what);
        }
    }

    /** The source without comments, and with empty texts. */
    private static String withoutTexts(String source) {
        String bare = Pattern.compile("/\\*.*?\\*/", Pattern.DOTALL).matcher(source).replaceAll("");
        return bare.replaceAll("\"[^\"]*\"", "\"\"").replaceAll("//[^\n]*", "");
    }

    private static Set<String> faceOfDocument() throws IOException {
        Set<String> face = new TreeSet<>();
        Matcher line = Pattern.compile("public (int \\w+\\([^)]*\\));").matcher(Files.readString(DOCUMENT));
        while (line.find()) {
            face.add(line.group(1).replaceAll("(boolean|long|int) \\w+(?=[,)])", "$1"));
        }
        return face;
    }

    private static void checkFace() throws IOException {
        Set<String> face = new TreeSet<>();
        Set<String> publicNames = new TreeSet<>();
        for (Method method : DaughterTongues.class.getDeclaredMethods()) {
            int modifiers = method.getModifiers();
            if (Modifier.isPublic(modifiers)) {
                List<String> types = new ArrayList<>();
                for (Class<?> type : method.getParameterTypes()) {
                    types.add(type.getName());
                }
                face.add(method.getReturnType() + " " + method.getName() + "(" + String.join(", ", types) + ")");
                publicNames.add(method.getName());
                expect(!Modifier.isStatic(modifiers), 1, method.getName() + " is static");
            } else {
                expect(Modifier.isPrivate(modifiers), 1, method.getName() + " can be seen");
            }
        }
        expect(face.equals(faceOfDocument()), 1, "the face is " + face);
        expect(face.size() == 46, 1, "the document has 46 calls, the face " + face.size());
        for (Class<?> type : allClasses()) {
            for (Method method : type.getDeclaredMethods()) {
                boolean isOfFace = type == DaughterTongues.class && Modifier.isPublic(method.getModifiers());
                expect(isOfFace || !publicNames.contains(method.getName()), 1, method + " bears a public name");
            }
        }
        int modifiers = DaughterTongues.class.getModifiers();
        expect(Modifier.isPublic(modifiers) && Modifier.isFinal(modifiers), 1, "the class is not public and final");
        for (Field field : DaughterTongues.class.getDeclaredFields()) {
            expect(Modifier.isPrivate(field.getModifiers()), 1, field.getName() + " can be seen");
        }
    }

    private static List<Class<?>> allClasses() {
        List<Class<?>> all = new ArrayList<>(List.of(DaughterTongues.class));
        all.addAll(Arrays.asList(DaughterTongues.class.getDeclaredClasses()));
        return all;
    }

    private static void checkClasses() {
        expect(allClasses().size() <= 12, 11, "there are " + allClasses().size() + " classes");
        for (Class<?> type : allClasses()) {
            if (type != DaughterTongues.class) {
                expect(Modifier.isStatic(type.getModifiers()), 2, type + " is not static");
                expect(!Modifier.isPublic(type.getModifiers()), 1, type + " is public");
            }
            int fields = 0;
            for (Field field : type.getDeclaredFields()) {
                if (Modifier.isStatic(field.getModifiers())) {
                    expect(Modifier.isFinal(field.getModifiers()), 5, field + " is not final");
                    expect(!field.getType().isArray(), 5, field + " is an array");
                } else {
                    fields++;
                }
            }
            expect(fields <= 20, 11, type + " has " + fields + " fields");
            for (Method method : type.getDeclaredMethods()) {
                expect(method.getParameterCount() <= 7, 11, method + " has too many parameters");
                expect(!method.isSynthetic(), 2, method + " is not written out");
            }
            for (Constructor<?> made : type.getDeclaredConstructors()) {
                expect(made.getParameterCount() <= 7, 11, made + " has too many parameters");
            }
        }
    }

    private static void checkWords(String bare) {
        String[] forbidden = {"throw", "throws", "try", "catch", "finally", "synchronized", "assert", "protected",
            "package", "volatile", "native", "hashCode", "toString", "System\\.(?!arraycopy)", "Thread", "Random",
            "equals", "Exact", "record", "static \\{"};
        for (String word : forbidden) {
            expect(!Pattern.compile("(\\b|(?<=[a-z]))" + word + "(?![a-zA-Z])").matcher(bare).find(), 6, word);
        }
        expect(!bare.contains("->") && !bare.contains("::"), 2, "a lambda or a method reference");
        expect(!Pattern.compile("\"\\s*\\+|\\+\\s*\"").matcher(bare).find(), 10, "texts are joined by +");
        Matcher imports = Pattern.compile("import ([\\w.*]+);").matcher(bare);
        while (imports.find()) {
            expect(imports.group(1).equals("java.util.Arrays"), 4, "import of " + imports.group(1));
        }
    }

    /** A counter against a bound is seen from the head of each loop. */
    private static void checkLoops(String bare) {
        expect(!Pattern.compile("\\bdo\\b").matcher(bare).find(), 9, "a loop whose head stands behind it");
        Matcher head = Pattern.compile("\\b(for|while) \\((.*)\\) \\{").matcher(bare);
        int heads = 0;
        while (head.find()) {
            heads++;
            String goesOn = head.group(1).equals("for") ? head.group(2).split(";")[1] : head.group(2);
            // what stands in brackets can't keep a loop going if the counter must be below its bound, too
            boolean isBound = !goesOn.replaceAll("\\([^()]*\\)", "").contains("||");
            boolean isCounted = isBound && goesOn.trim().matches("\\w+ <=? .*");
            expect(isCounted, 9, "no counter in '" + head.group() + "'");
        }
        Matcher loop = Pattern.compile("\\b(for|while)\\b").matcher(bare);
        while (loop.find()) {
            heads--;
        }
        expect(heads == 0, 9, "a loop whose head is not in one line");
    }

    /** The bodies of all methods by their names; those of one name are told as one. */
    private static Map<String, String> methodsOf(String bare) {
        Map<String, String> methods = new TreeMap<>();
        String[] lines = bare.split("\n");
        for (int i = 0; i < lines.length; i++) {
            Matcher head = METHOD_HEAD.matcher(lines[i]);
            if (head.matches()) {
                StringBuilder body = new StringBuilder();
                int end = i + 1;
                while (end < lines.length - 1 && !lines[end].equals(head.group(1) + "}")) {
                    body.append(lines[end]).append('\n');
                    end++;
                }
                expect(end - i < MOST_LINES, 11, "a method of " + (end - i + 1) + " lines: " + lines[i].trim());
                methods.merge(head.group(2), body.toString(), String::concat);
            }
        }
        return methods;
    }

    private static void checkMethods(String bare) {
        Map<String, String> methods = methodsOf(bare);
        for (Class<?> type : allClasses()) {
            for (Method method : type.getDeclaredMethods()) {
                expect(methods.containsKey(method.getName()), 11, method + " was not found in the source");
            }
        }
        for (String name : methods.keySet()) {
            checkDepth(name, methods, List.of(name));
        }
    }

    /** Follows all calls from a method; the class does without recursion, so each way has an end. */
    private static void checkDepth(String name, Map<String, String> methods, List<String> way) {
        if (way.size() > MOST_DEEP) {
            expect(false, 11, "calls that are too deep: " + String.join(", ", way));
            return;
        }
        Matcher call = Pattern.compile("(\\w+)\\(").matcher(methods.get(name));
        Set<String> called = new TreeSet<>();
        while (call.find()) {
            called.add(call.group(1));
        }
        called.retainAll(methods.keySet());
        for (String next : called) {
            expect(!way.contains(next), 8, "recursion: " + String.join(", ", way) + ", " + next);
            List<String> further = new ArrayList<>(way);
            further.add(next);
            checkDepth(next, methods, further);
        }
    }
}
