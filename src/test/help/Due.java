import java.nio.charset.StandardCharsets;
import java.nio.file.Files;
import java.nio.file.Path;
import java.util.ArrayList;
import java.util.List;
import java.util.function.IntToLongFunction;

/** What the tests of edges share: an answer beside the one that is due, told with its sentence. */
final class Due {
    static final int BAD = -1, STATE = -2, FULL = -3, NONE = -4;
    static final int LOW = Integer.MIN_VALUE, TOP = Integer.MAX_VALUE;

    private static final List<String> SENTENCES = new ArrayList<>();
    private static int wrong;

    private Due() {
    }

    /** What follows, to the next one, is the test of this sentence of the document. */
    static void edge(String sentence) {
        SENTENCES.add(sentence);
    }

    static void due(String call, long got, long want) {
        if (got != want) {
            wrong++;
            String sentence = SENTENCES.isEmpty() ? "" : SENTENCES.get(SENTENCES.size() - 1);
            System.out.println("\"" + sentence + "\": " + call + " answered " + got + ", due is " + want);
        }
    }

    /** The same answer is due for each of the arguments. */
    static void each(String name, IntToLongFunction call, long want, int... arguments) {
        for (int a : arguments) {
            due(name + " of " + a, call.applyAsLong(a), want);
        }
    }

    static void put(NoSquare x, String text) {
        byte[] bytes = text.getBytes(StandardCharsets.ISO_8859_1);
        for (int i = 0; i < bytes.length; i += 8) {
            long v = 0;
            for (int j = 0; j < 8; j++) {
                v = v << 8 | (i + j < bytes.length ? bytes[i + j] & 255 : 0);
            }
            x.feed(v);
        }
        x.end(bytes.length);
    }

    /** A new object with a text that has no fault. */
    static NoSquare taken(String text, int lines) {
        NoSquare x = new NoSquare();
        put(x, text);
        due("text() of '" + text + "'", x.text(), lines);
        due("fault() of '" + text + "'", x.fault(), 0);
        return x;
    }

    /** A new object with a text that has this fault in this place. */
    static NoSquare faulty(String text, int fault, int place) {
        NoSquare x = new NoSquare();
        put(x, text);
        due("text() of '" + text + "'", x.text(), -10 - place);
        due("fault() of '" + text + "'", x.fault(), fault);
        return x;
    }

    /** Ends the program; with the document's path, looks whether each sentence stands in it. */
    static void finish(String[] args) throws Exception {
        if (args.length > 0) {
            String document = Files.readString(Path.of(args[0])).replaceAll("\\s+", " ");
            for (String sentence : SENTENCES) {
                if (!document.contains(sentence)) {
                    wrong++;
                    System.out.println("the document does not say \"" + sentence + "\"");
                }
            }
        }
        System.out.println(SENTENCES.size() + " sentences, " + wrong + " answers are not as due");
        if (wrong != 0) {
            System.exit(1);
        }
    }
}
