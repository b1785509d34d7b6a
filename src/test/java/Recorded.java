import java.nio.file.Files;
import java.nio.file.Path;
import java.util.Arrays;
import java.util.Map;
import java.util.TreeMap;

/**
 * Runs of calls with the answers of a second model, a program in another language that finds them in
 * other ways than the class (see NOTES.md): they do not depend on the plain model of AgainstPlain.
 */
public final class Recorded {
    private static final String RUNS = "src/test/data/recorded.txt";

    public static void main(String[] args) throws Exception {
        int wrong = 0;
        int at = 0;
        NoSquare x = new NoSquare();
        Map<String, Integer> answered = new TreeMap<>();
        for (String line : Files.readAllLines(Path.of(args.length > 0 ? args[0] : RUNS))) {
            at++;
            if (line.equals("new")) {
                x = new NoSquare();
                continue;
            }
            String[] parts = line.split(" ");
            int last = parts.length - 1;
            long want = Long.parseLong(parts[last]);
            long got = Caller.call(x, parts[0], Arrays.copyOfRange(parts, 1, last - 1));
            answered.merge(parts[0], want >= 0 ? 1 : 0, Integer::sum);
            if (got != want) {
                wrong++;
                System.out.println("line " + at + ": " + line + " is due, answered was " + got);
            }
        }
        for (String name : Caller.CALLS.keySet()) {
            if (answered.getOrDefault(name, 0) == 0) {
                wrong++;
                System.out.println("no run has an answer of " + name + "() that is no refusal");
            }
        }
        System.out.println(at + " lines, " + wrong + " are not as due");
        if (wrong != 0) {
            System.exit(1);
        }
    }
}
