import java.nio.file.Files;
import java.nio.file.Path;
import java.util.List;
import java.util.regex.Matcher;
import java.util.regex.Pattern;

/** The examples of README.md answer as it says there, and it tells of every call. */
public final class Readme {
    private static final Pattern BLOCK = Pattern.compile("(?s)```java\n(.*?)```");
    private static final Pattern EXAMPLE = Pattern.compile("x\\.(\\w+)\\(([^)]*)\\); +// (-?\\d+)\\b.*");

    private static int wrong;

    private static void check(boolean so, String what) {
        if (!so) {
            wrong++;
            System.out.println("README.md: " + what);
        }
    }

    /** How many calls there are in it. */
    private static int runExample(String block) throws Exception {
        NoSquare x = null;
        int calls = 0;
        for (String line : block.split("\n")) {
            Matcher m = EXAMPLE.matcher(line);
            if (line.startsWith("NoSquare x = new NoSquare();")) {
                x = new NoSquare();
            } else if (m.matches() && x != null) {
                String[] arguments = m.group(2).isEmpty() ? new String[0] : m.group(2).split(", *");
                long got = Caller.call(x, m.group(1), arguments);
                check(got == Long.parseLong(m.group(3)), line.trim() + ": answered was " + got);
                calls++;
            } else {
                check(false, "no example: " + line);
            }
        }
        return calls;
    }

    public static void main(String[] args) throws Exception {
        String text = Files.readString(Path.of("README.md"));
        Matcher blocks = BLOCK.matcher(text);
        int calls = 0;
        while (blocks.find()) {
            calls += runExample(blocks.group(1));
        }
        check(calls > 0, "there are examples");
        for (String name : Caller.CALLS.keySet()) {
            check(text.contains("`" + name + "("), "it tells of " + name + "()");
        }
        for (String word : List.of(".ci/run", "javac", "../shared/DOC.md", "../shared/tests")) {
            check(text.contains(word), "it tells of " + word);
        }
        System.out.println(calls + " examples, " + wrong + " are not so");
        if (wrong != 0) {
            System.exit(1);
        }
    }
}
