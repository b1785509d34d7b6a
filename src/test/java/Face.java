import java.lang.management.ManagementFactory;
import java.lang.reflect.Constructor;
import java.lang.reflect.Field;
import java.lang.reflect.Method;
import java.lang.reflect.Modifier;
import java.nio.file.Files;
import java.nio.file.Path;
import java.util.ArrayList;
import java.util.List;
import java.util.TreeSet;
import java.util.regex.Matcher;
import java.util.regex.Pattern;

/** The public face, the rules of LANGUAGE.md that can be seen from outside, the room of the calls. */
public final class Face {
    private static final String[] METHODS = {
        "int feed(long)", "int end(int)", "int text()", "int fault()", "int rule(int)", "int square(int,int)",
        "int cost(int)", "int whole(int)", "int left()", "int take(int)", "int lie(int)", "int price(int,int)",
        "int counts(int,boolean)", "int fewest(int)", "int cheapest(int)", "int without(int)",
        "int alike(int,int)", "int between(int)", "int just(int,int,int)", "int riddle(int,int,int)",
        "int taking(int)", "int laying(int)", "int boxes(int)", "long mean(int)", "long chance(int)",
        "int see(int,int)", "int gone(int,int)", "int play(int,int)", "int keep(int)", "int back(int)",
        "int sheet(int,int,int)", "int lay(int,int,int)", "int read(int,int,int,int)", "int torn()",
        "int count(int)",
    };
    private static final String[] NOT_IN_SOURCE = {
        "throw", "throws", "try", "catch", "synchronized", "assert", "protected", "package", "Object",
        "Exception", "Random", "System\\.(?!arraycopy)", "\\w+Exact", "->", "::", "Math\\.random",
        "Float", "Double", "var", "hashCode", "@\\w+", "while \\(true\\)", "for \\(;;\\)",
    };

    private static int wrong;

    private static void check(boolean so, String what) {
        if (!so) {
            wrong++;
            System.out.println("not so: " + what);
        }
    }

    private static void face() {
        check(Modifier.isPublic(NoSquare.class.getModifiers()), "the class is public");
        check(Modifier.isFinal(NoSquare.class.getModifiers()), "the class is final");
        TreeSet<String> got = new TreeSet<>();
        TreeSet<String> names = new TreeSet<>();
        for (Method m : NoSquare.class.getDeclaredMethods()) {
            if (Modifier.isPublic(m.getModifiers())) {
                StringBuilder s = new StringBuilder(m.getReturnType() + " " + m.getName() + "(");
                for (Class<?> p : m.getParameterTypes()) {
                    s.append(s.charAt(s.length() - 1) == '(' ? "" : ",").append(p);
                }
                got.add(s + ")");
                names.add(m.getName());
            }
        }
        check(got.equals(new TreeSet<>(List.of(METHODS))), "the public methods are the document's: " + got);
        for (Constructor<?> c : NoSquare.class.getDeclaredConstructors()) {
            check(Modifier.isPublic(c.getModifiers()) && c.getParameterCount() == 0, "one constructor: " + c);
        }
        TreeSet<String> constants = new TreeSet<>();
        for (Field f : NoSquare.class.getDeclaredFields()) {
            if (!Modifier.isPrivate(f.getModifiers())) {
                constants.add(f.getName());
                check(Modifier.isStatic(f.getModifiers()) && Modifier.isFinal(f.getModifiers()), f + " is constant");
            }
        }
        check(constants.toString().equals("[BAD, FULL, NONE, STATE]"), "the constants: " + constants);
        hidden(NoSquare.class, names);
        for (Class<?> inner : NoSquare.class.getDeclaredClasses()) {
            check(Modifier.isStatic(inner.getModifiers()), inner + " is static");
            check(!Modifier.isPublic(inner.getModifiers()), inner + " is not public");
            hidden(inner, names);
        }
        check(NoSquare.class.getDeclaredClasses().length < 12, "at most twelve classes");
    }

    private static void hidden(Class<?> c, TreeSet<String> names) {
        int fields = 0;
        for (Method m : c.getDeclaredMethods()) {
            check(m.getParameterCount() <= 7, m + " has at most seven parameters");
            if (c != NoSquare.class) {
                check(!Modifier.isPublic(m.getModifiers()), m + " is not public");
            }
            if (!Modifier.isPublic(m.getModifiers())) {
                check(!names.contains(m.getName()), m + " bears no public name");
                check(c != NoSquare.class || Modifier.isPrivate(m.getModifiers()), m + " is private");
            }
        }
        for (Field f : c.getDeclaredFields()) {
            boolean constant = Modifier.isStatic(f.getModifiers());
            check(!constant || Modifier.isFinal(f.getModifiers()), f + " is final");
            fields += constant ? 0 : 1;
        }
        check(fields <= 20, c + " has at most twenty fields");
    }

    private static void source() throws Exception {
        String whole = Files.readString(Path.of("src/main/java/NoSquare.java"));
        String code = whole.replaceAll("(?s)/\\*.*?\\*/", "").replaceAll("//[^\n]*", "");
        for (String word : NOT_IN_SOURCE) {
            String edge = Character.isLetter(word.charAt(0)) ? "\\b" : "";
            String behind = Character.isLetter(word.charAt(word.length() - 1)) ? "\\b" : "";
            Matcher m = Pattern.compile(edge + word + behind).matcher(code);
            check(!m.find(), "the source is without " + word);
        }
        Matcher imports = Pattern.compile("(?m)^import (.*);").matcher(code);
        while (imports.find()) {
            check(imports.group(1).equals("java.util.Arrays"), "import " + imports.group(1));
        }
        Matcher calls = Pattern.compile("\\b(Integer|Long|Math|Arrays|System)\\.(\\w+)").matcher(code);
        List<String> allowed = List.of("Integer.bitCount", "Math.max", "Math.min", "Arrays.fill", "System.arraycopy");
        while (calls.find()) {
            check(allowed.contains(calls.group()), "the library: " + calls.group());
        }
        for (char c : whole.toCharArray()) {
            check(c == '\n' || c >= 32 && c < 127, "a plain sign: " + (int) c);
        }
        methodLengths(whole);
    }

    private static void methodLengths(String whole) {
        int start = 0;
        String[] lines = whole.split("\n");
        for (int i = 0; i < lines.length; i++) {
            if (lines[i].matches("( {4}){1,2}[\\w\\[\\] ]+\\(.*\\) \\{")) {
                start = i;
            }
            if (lines[i].matches("( {4}){1,2}}")) {
                check(i - start < 60, "short: " + lines[start].trim());
            }
        }
    }

    // ---- the room

    private static void tell(NoSquare x, String text) {
        for (int i = 0; i < text.length(); i += 8) {
            long v = 0;
            for (int j = 0; j < 8; j++) {
                v = v << 8 | (i + j < text.length() ? text.charAt(i + j) : ' ');
            }
            x.feed(v);
        }
        check(x.text() >= 0, "taken: " + text);
    }

    private static long use(NoSquare x) {
        long sum = 0;
        for (int what = 0; what < 2; what++) {
            sum += x.fewest(what) + x.cheapest(what) + x.taking(what) + x.laying(what) + x.boxes(what);
            sum += x.mean(what) + x.chance(what) + x.just(4, 5, what) + x.gone(4, what) + x.riddle(2, 4, what);
        }
        sum += x.between(4) + x.alike(5, 9) + x.without(0) + x.play(3, 60) + x.left() + x.whole(1);
        sum += x.lay(0, 0, 3) + x.read(0, 0, 0, 3) + x.keep(0) + x.back(0) + x.count(5) + x.square(3, 4);
        return sum;
    }

    /** What is asked makes no objects, so no run of calls can fill the room. */
    private static void room() {
        com.sun.management.ThreadMXBean bean =
                (com.sun.management.ThreadMXBean) ManagementFactory.getThreadMXBean();
        List<NoSquare> objects = new ArrayList<>();
        String[] texts = {
            "grid 4 3;", "grid 4 3;cost 0 9;cost 5 3;seen 1 6;", "grid 4 3;gone 0 3 6 9 12 15 18 21 24 27 30 1;",
            "grid 4 3;gone 0 2 4 6 8 10 12 14 16 18 20 22 24 26 28;", "grid 3 3;size 2 3;", "",
        };
        for (String text : texts) {
            NoSquare x = new NoSquare();
            x.sheet(0, 0, 3);
            tell(x, text);
            objects.add(x);
        }
        long sum = 0;
        for (NoSquare x : objects) {
            sum += use(x);
        }
        long before = bean.getCurrentThreadAllocatedBytes();
        for (int i = 0; i < 10; i++) {
            sum += use(objects.get(0)) + use(objects.get(2)) + use(objects.get(3));
        }
        long made = bean.getCurrentThreadAllocatedBytes() - before;
        check(made < 4096, "asking makes no objects: " + made + " bytes, sum " + sum);
        before = bean.getCurrentThreadAllocatedBytes();
        NoSquare fresh = new NoSquare();
        made = bean.getCurrentThreadAllocatedBytes() - before;
        check(made < 20000 && fresh.left() == 5, "a new object is small: " + made + " bytes");
    }

    public static void main(String[] args) throws Exception {
        face();
        source();
        room();
        System.out.println(wrong == 0 ? "all is so" : wrong + " are not so");
        if (wrong != 0) {
            System.exit(1);
        }
    }
}
