import java.io.IOException;
import java.nio.file.Files;
import java.nio.file.Path;
import java.util.regex.Matcher;
import java.util.regex.Pattern;

/**
 * The examples of README.md: they are run in their order as one program, in which each call must answer what stands
 * behind it. It is run from the project's folder.
 */
public final class ReadmeTest {

    private static final Pattern BLOCK = Pattern.compile("(?s)```java\n(.*?)```");
    private static final Pattern CALL = Pattern.compile("(int \\w+ = )?(x\\.\\w+\\(.*\\)); +// (-?\\d+)(:.*)?");
    private static final String FIRST_LINE = "DaughterTongues x = new DaughterTongues();";
    private static final int CALLS_OF_FACE = 46;

    private static int calls;

    public static void main(String[] args) throws IOException, InterruptedException {
        Path source = Files.createTempFile("ReadmeExamples", ".java");
        Files.writeString(source, program(Files.readString(Path.of("README.md"))));
        boolean isKept = runs(source) && calls > CALLS_OF_FACE / 2;
        Files.delete(source);
        System.out.println(isKept ? calls + " examples answer as they tell" : "the examples are not right");
        System.exit(isKept ? 0 : 1);
    }

    /** java compiles a source by itself. */
    private static boolean runs(Path source) throws IOException, InterruptedException {
        String java = Path.of(System.getProperty("java.home"), "bin", "java").toString();
        String classes = System.getProperty("java.class.path");
        return new ProcessBuilder(java, "-cp", classes, source.toString()).inheritIO().start().waitFor() == 0;
    }

    private static String program(String readme) {
        StringBuilder program = new StringBuilder("final class ReadmeExamples {\n"
            + "  private static int wrong;\n"
            + "  private static int due(String call, int want, int got) {\n"
            + "    if (got != want) { wrong++; System.out.println(call + \" answered \" + got); }\n"
            + "    return got;\n"
            + "  }\n"
            + "  public static void main(String[] args) {\n");
        Matcher block = BLOCK.matcher(readme);
        while (block.find()) {
            for (String line : block.group(1).split("\n")) {
                program.append("    ").append(statement(line)).append('\n');
            }
        }
        return program.append("    System.exit(wrong == 0 ? 0 : 1);\n  }\n}\n").toString();
    }

    /** Behind all lines but the first one an answer must stand; what becomes of others does not compile. */
    private static String statement(String line) {
        Matcher call = CALL.matcher(line);
        if (!call.matches()) {
            return line.equals(FIRST_LINE) ? line : "no answer stands behind: " + line;
        }
        calls++;
        String begins = call.group(1) == null ? "" : call.group(1);
        String shown = line.replace("\\", "\\\\").replace("\"", "\\\"");
        return begins + "due(\"" + shown + "\", " + call.group(3) + ", " + call.group(2) + ");";
    }
}
