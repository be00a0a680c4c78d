import java.io.IOException;
import java.nio.file.Files;
import java.nio.file.Path;
import java.util.List;
import java.util.regex.Matcher;
import java.util.regex.Pattern;

/**
 * Writes a test out of README.md: every call that it shows must answer what is said behind it, and every
 * constant of its table must be what the class has.
 *
 * <p>All its blocks of Java, one behind the other, are one run of calls. A line is a call with its answer in a
 * comment (more words may follow a colon), or it makes no call.
 */
final class ReadmeCalls {
    private static final Pattern SHOWN = Pattern.compile(
            "(?:(?<type>int|long) (?<name>\\w+) = )?(?<call>.+);\\s*// (?<answer>-?[0-9]+(?:\\.[0-9]+)?)(?:: .+)?");
    private static final Pattern CONSTANT = Pattern.compile("\\| `(?<name>[A-Z]+)` \\| (?<value>-?[0-9]+) \\|.*");

    private final StringBuilder body = new StringBuilder();
    private int calls = 0;
    private int constants = 0;

    private ReadmeCalls() {
    }

    /** The README's path, and that of the test to write. */
    public static void main(String[] args) throws IOException {
        Path test = Path.of(args[1]);
        ReadmeCalls found = new ReadmeCalls();
        found.take(Files.readAllLines(Path.of(args[0])));
        if (found.calls == 0 || found.constants == 0) {
            throw new IllegalArgumentException("the README shows no call, or no constant");
        }
        Files.writeString(test, found.written(test.getFileName().toString().replace(".java", "")));
    }

    private void take(List<String> lines) {
        boolean inCode = false;
        for (String line : lines) {
            if (line.startsWith("```")) {
                inCode = line.equals("```java");
            } else if (inCode) {
                takeCode(line);
            } else {
                takeConstant(line);
            }
        }
    }

    private void takeCode(String line) {
        Matcher shown = SHOWN.matcher(line);
        if (!shown.matches()) {
            if (line.contains("orrery.")) {
                throw new IllegalArgumentException("a call without its answer: " + line);
            }
            body.append("    ").append(line).append('\n');
            return;
        }
        calls++;
        String asked = shown.group("call");
        if (shown.group("name") != null) {
            asked = shown.group("name");
            body.append("    ").append(shown.group("type")).append(' ').append(asked).append(" = ")
                    .append(shown.group("call")).append(";\n");
        }
        due(shown.group("call"), asked, shown.group("answer"));
    }

    private void takeConstant(String line) {
        Matcher constant = CONSTANT.matcher(line);
        if (constant.matches()) {
            constants++;
            due(constant.group("name"), "OrreryDials." + constant.group("name"), constant.group("value"));
        }
    }

    private void due(String told, String asked, String answer) {
        String want = answer.contains(".") ? answer : answer + "L";
        String text = told.replace("\\", "\\\\").replace("\"", "\\\"");
        body.append("    due(\"").append(text).append("\", ").append(asked).append(", ").append(want).append(");\n");
    }

    private String written(String name) {
        return String.join("\n",
                "public final class " + name + " {",
                "  private static int wrong = 0;",
                "  private static void due(String call, long got, long want) {",
                "    tell(call, got == want, got + \", README.md says \" + want);",
                "  }",
                "  private static void due(String call, double got, double want) {",
                "    tell(call, Double.compare(got, want) == 0, got + \", README.md says \" + want);",
                "  }",
                "  private static void tell(String call, boolean right, String words) {",
                "    if (!right) { wrong++; System.out.println(call + \" answered \" + words); }",
                "  }",
                "  public static void main(String[] args) {",
                body.toString(),
                "    System.out.println(\"README.md: " + calls + " calls, " + constants
                        + " constants, \" + wrong + \" not as shown\");",
                "    if (wrong != 0) System.exit(1);",
                "  }",
                "}",
                "");
    }
}
