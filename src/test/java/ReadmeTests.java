import java.io.IOException;
import java.nio.file.Files;
import java.nio.file.Path;
import java.util.Set;
import java.util.TreeSet;
import java.util.regex.Matcher;
import java.util.regex.Pattern;

/** Makes the calls of README.md's examples and holds them against the answers that stand behind them. */
public final class ReadmeTests extends Sentences {
    private static final Pattern BLOCK = Pattern.compile("(?s)```java\n(.*?)```");
    private static final Pattern ANSWERED = Pattern.compile("x\\.(\\w+\\([^)]*\\)); +// (-?\\d+): .*");
    private static final Pattern CUBE = Pattern.compile("String cube = \"([^\"]*)\";.*");

    public static void main(String[] args) throws IOException {
        String page = Files.readString(Path.of("README.md"));
        where = "README.md";
        Matcher blocks = BLOCK.matcher(page);
        int examples = 0;
        while (blocks.find()) {
            example(blocks.group(1));
            examples++;
        }
        due("examples", examples, 3);
        namesEveryCall(page);
        end("the examples of README.md answer as it says");
    }

    /** Each line is a call with its answer, or one of the lines that make the object and put the cube's text. */
    private static void example(String block) {
        CubeHops x = new CubeHops();
        String text = "";
        for (String line : block.split("\n")) {
            Matcher answered = ANSWERED.matcher(line);
            Matcher cube = CUBE.matcher(line);
            if (answered.matches()) {
                gives(x, answered.group(1), Long.parseLong(answered.group(2)));
            } else if (cube.matches()) {
                text = cube.group(1);
            } else if (line.trim().equals("x.put(0, i, cube.charAt(i));")) {
                putAll(x, text);
            } else {
                boolean known = line.equals("CubeHops x = new CubeHops();") || line.startsWith("for (int i = 0;")
                        || line.equals("}");
                due("a line that this test can read, which '" + line + "' is,", known ? 1 : 0, 1);
            }
        }
    }

    private static void putAll(CubeHops x, String text) {
        for (int i = 0; i < text.length(); i++) {
            due("put(0, " + i + ", ..)", x.put(0, i, text.charAt(i)), 1032);
        }
    }

    private static void namesEveryCall(String page) throws IOException {
        Set<String> calls = new TreeSet<>();
        Matcher face = Pattern.compile("public (?:int|long) (\\w+)\\(").matcher(Files.readString(Path.of("../shared/DOC.md")));
        while (face.find()) {
            calls.add(face.group(1));
        }
        due("calls of the document's face", calls.size(), 42);
        for (String call : calls) {
            due("the page names " + call + ", which", page.contains("`" + call + "`") ? 1 : 0, 1);
        }
    }
}
