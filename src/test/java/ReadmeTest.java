import java.io.IOException;
import java.io.UncheckedIOException;
import java.nio.charset.StandardCharsets;
import java.nio.file.Files;
import java.nio.file.Path;
import java.util.TreeSet;
import java.util.regex.Matcher;
import java.util.regex.Pattern;
import java.util.stream.Stream;

/** What README.md says is so: its examples answer so, it names each call of the document and each test that there is. */
public final class ReadmeTest {
    private static final Path README = Path.of("README.md");
    private static final Path DOCUMENT = Path.of("../shared/DOC.md");
    private static final Path TESTS = Path.of("src/test/java");
    private static final Pattern BLOCK = Pattern.compile("(?s)```java\n(.*?)```");
    private static final Pattern CALL = Pattern.compile("x\\.(\\w+)\\(([^()]*)\\); +// (-?\\d+)(:.*)?");
    private static final Pattern OPEN = Pattern.compile("open\\(x, \"([^\"]*)\"\\); +// (-?\\d+)(:.*)?");
    private static final Pattern FACE = Pattern.compile("public (?:int|long) (\\w+)\\(([^)]*)\\);");
    private static final Pattern LISTED = Pattern.compile("(?m)^- (`\\w+\\([^)]*\\)`(?:, `\\w+\\([^)]*\\)`)*):");
    private static final Pattern QUOTED = Pattern.compile("`([^`]*)`");
    private static final int LEAST_EXAMPLES = 40;

    private static Script script(String sentence) {
        return new Script("README.md: " + sentence);
    }

    private static String text(Path path) throws IOException {
        return Files.readString(path, StandardCharsets.UTF_8);
    }

    private static void alike(String sentence, Object got, Object want) {
        boolean same = got.equals(want);
        script(sentence).due(same ? sentence : got + " where " + want, same ? 1 : 0, 1);
    }

    /** Runs a block of examples on a new object: how many answers it has. */
    private static int example(String block) {
        Script s = script("an example");
        int answers = 0;
        for (String line : block.split("\n")) {
            Matcher call = CALL.matcher(line);
            Matcher open = OPEN.matcher(line);
            if (call.matches()) {
                String asked = (call.group(1) + " " + call.group(2).replace(",", "")).trim();
                s.due(line, s.ask(asked), Long.parseLong(call.group(3)));
                answers++;
            } else if (open.matches()) {
                s.open(open.group(1), Long.parseLong(open.group(2)));
                answers++;
            } else {
                alike("each line of an example is a call with its answer", line, "PennyMore x = new PennyMore();");
            }
        }
        return answers;
    }

    private static void examples(String readme) {
        int answers = 0;
        Matcher block = BLOCK.matcher(readme);
        while (block.find()) {
            if (!block.group(1).startsWith("static int open(")) {
                answers += example(block.group(1));
            }
        }
        alike("it has examples", answers >= LEAST_EXAMPLES, true);
    }

    /** The document's face as README.md writes it: buyer(kind, v, worth). */
    private static TreeSet<String> face(String document) {
        TreeSet<String> calls = new TreeSet<>();
        Matcher m = FACE.matcher(document);
        while (m.find()) {
            calls.add(m.group(1) + "(" + m.group(2).replaceAll("(int|long) ", "") + ")");
        }
        return calls;
    }

    private static TreeSet<String> listed(String readme) {
        TreeSet<String> calls = new TreeSet<>();
        Matcher line = LISTED.matcher(readme);
        while (line.find()) {
            Matcher call = QUOTED.matcher(line.group(1));
            while (call.find()) {
                calls.add(call.group(1));
            }
        }
        return calls;
    }

    private static TreeSet<String> testsNamed(String readme) {
        TreeSet<String> names = new TreeSet<>();
        Matcher m = Pattern.compile("`(\\w+Test)`").matcher(readme);
        while (m.find()) {
            names.add(m.group(1));
        }
        return names;
    }

    private static TreeSet<String> testsThere() throws IOException {
        TreeSet<String> names = new TreeSet<>();
        try (Stream<Path> files = Files.list(TESTS)) {
            files.map(file -> file.getFileName().toString())
                .filter(name -> name.endsWith("Test.java"))
                .forEach(name -> names.add(name.substring(0, name.length() - ".java".length())));
        }
        return names;
    }

    private static void classesThere(String readme, String program) {
        String built = readme.substring(readme.indexOf("## How it is built"));
        Matcher m = Pattern.compile("`([A-Z]\\w+)`").matcher(built);
        while (m.find()) {
            alike("`" + m.group(1) + "` is a class of the program", program.contains(" class " + m.group(1) + " "), true);
        }
    }

    private static void refusals() {
        Script six = script("the refusals that stand behind the calls");
        six.go("of 0 0 = -10001, gained 0 = -100001, run 0 = -100001, order 0 0 = -100001, aunt 0 = -100001", "first 0 = -5",
            "item 0 0 0 = -11, tape 0 0 -1 = -14, tape 0 0 1 = 1, item 0 1 0 = -13, judge 0 0 = -12, read 0 1 = NO",
            "buyer 0 0 9 = 0, of 0 3 = -5, sure 0 2 = NO, taken 0 1 = -12, go = 1, of 0 5 = -5, aunt 0 = -100003",
            "back 0 = 0, " + Script.times("buyer 0 0 9", 5), "order 0 -1 = -9, lot 0 = NO, buyer 0 0 9 = -4");
    }

    private static void shopEmptiesTheText() {
        Script s = script("shop() with a FAULT empties THE TEXT, act(..) of nobody empties THE TRACE");
        s.go("feed 120 = 1, shop = -10, count 3 = 0, buyer 0 0 0, act 0 0 1 = 1, trace 0 = 10, act 1 0 1 = 0, trace 0 = -1");
    }

    public static void main(String[] args) {
        try {
            String readme = text(README);
            examples(readme);
            alike("it lists each call of the document, and no other", listed(readme), face(text(DOCUMENT)));
            alike("it names each test, and no other", testsNamed(readme), testsThere());
            alike("CI is run as it says", Files.isExecutable(Path.of(".ci/run")), true);
            classesThere(readme, text(Path.of("src/main/java/PennyMore.java")));
            refusals();
            shopEmptiesTheText();
        } catch (IOException e) {
            throw new UncheckedIOException(e);
        }
        Script.end();
    }
}
