import java.io.IOException;
import java.lang.reflect.InvocationTargetException;
import java.lang.reflect.Method;
import java.lang.reflect.Proxy;
import java.nio.file.Files;
import java.nio.file.Path;
import java.util.ArrayList;
import java.util.Arrays;
import java.util.LinkedHashMap;
import java.util.List;
import java.util.Map;
import java.util.function.Supplier;

/**
 * What the tests of single sentences share. Each test quotes its sentence, or the part of it that names a boundary;
 * a quote that the document doesn't hold is wrong, and so is a word of the document that no test quotes.
 * Each test is told to LooseGrid, and to PlainGrid, so that the model of ModelTest is held to the same answers.
 * Those who tell the tests extend it, so that these can be told without its name.
 */
class Sentences {
    /** A test: calls on a new object, each with the answer that is due. */
    interface Calls {
        void on(Grid g);
    }

    interface Ask {
        long of(Grid g);
    }

    private static final Path DOC = Path.of("..", "shared", "DOC.md");
    private static final int MOST_CALLS = 512;

    private static final Map<String, String> TEXTS = new LinkedHashMap<>();
    private static final Map<String, boolean[]> QUOTED = new LinkedHashMap<>();
    private static String heading = "";
    private static String current = "";
    private static Supplier<Object> maker = LooseGrid::new;
    private static int tests = 0;
    private static int wrong = 0;

    // ---- the document

    static void readDocument() {
        if (!Files.exists(DOC)) {
            System.out.println("there is no " + DOC + ": what the tests quote isn't looked up");
            return;
        }
        try {
            for (String part : Files.readString(DOC).split("\n## ")) {
                int end = part.indexOf('\n');
                String name = part.substring(0, end).replaceAll(":.*", "");
                TEXTS.put(name, plain(part.substring(end)));
                QUOTED.put(name, new boolean[TEXTS.get(name).length()]);
            }
        } catch (IOException e) {
            tellWrong("the document can't be read: " + e);
        }
    }

    /** Without the signature of a promise, the frames of blocks, and the headings that stand in the interface. */
    private static String plain(String text) {
        return text.replaceAll("(?m)^(Ahead of the calls .*|```.*)$", "").replaceAll("==== \\d ", "")
                .replaceAll("^\\s*`[^`]*`: ", "").replaceAll("\\s+", " ");
    }

    private static void lookUp(String quote) {
        String text = TEXTS.get(heading);
        if (TEXTS.isEmpty()) return;
        int at = text == null ? -1 : text.indexOf(quote);
        if (at < 0) tellWrong("the document doesn't say so");
        for (; at >= 0; at = text.indexOf(quote, at + 1)) {
            Arrays.fill(QUOTED.get(heading), at, at + quote.length(), true);
        }
    }

    private static void tellUnquoted(String name) {
        StringBuilder rest = new StringBuilder();
        for (int at = 0; at < TEXTS.get(name).length(); at++) {
            rest.append(QUOTED.get(name)[at] ? '|' : TEXTS.get(name).charAt(at));
        }
        current = name;
        for (String piece : rest.toString().split("\\|+")) {
            if (piece.matches(".*[a-zA-Z0-9].*")) tellWrong("no test quotes:" + piece);
        }
    }

    // ---- telling tests

    /** The heading of the document under which the sentences stand that are quoted next. */
    static void under(String name) {
        heading = name;
    }

    static void test(String quote, String name, Calls calls) {
        tests++;
        current = heading + ", \"" + quote + "\", " + name;
        lookUp(quote);
        carryOut(calls);
        Supplier<Object> was = maker;
        String told = current;
        maker = PlainGrid::new;
        current = "PlainGrid: " + told;
        carryOut(calls);
        maker = was;
        current = told;
    }

    private static void carryOut(Calls calls) {
        try {
            calls.on(fresh());
        } catch (RuntimeException e) {
            tellWrong("threw " + e);
        }
    }

    static void due(String call, long got, long want) {
        if (got != want) tellWrong(call + " answered " + got + ", due is " + want);
    }

    /** What "of" tells of a BOX, from one what on. */
    static void dueOf(Grid g, int box, int what, int... want) {
        for (int n = 0; n < want.length; n++) {
            due("of(" + box + ", " + (what + n) + ")", g.of(box, what + n), want[n]);
        }
    }

    private static void tellWrong(String what) {
        wrong++;
        System.out.println(current + ": " + what);
    }

    static void end() {
        for (String name : TEXTS.keySet()) {
            if (name.equals("Terms") || name.startsWith("Promise ")) tellUnquoted(name);
        }
        System.out.println(tests + " tests of sentences, " + wrong + " answers not as due");
        if (wrong != 0) System.exit(1);
    }

    // ---- objects

    /** A new object of the class that is tested now; the document promises nothing behind its 512th call. */
    static Grid fresh() {
        Object target = maker.get();
        int[] calls = {0};
        return (Grid) Proxy.newProxyInstance(Grid.class.getClassLoader(), new Class<?>[] {Grid.class},
                (proxy, face, told) -> {
                    calls[0]++;
                    if (calls[0] > MOST_CALLS) throw new IllegalStateException("the test makes too many calls");
                    return answer(target, face, told);
                });
    }

    private static Object answer(Object target, Method face, Object[] told) {
        try {
            return target.getClass().getDeclaredMethod(face.getName(), face.getParameterTypes()).invoke(target, told);
        } catch (InvocationTargetException e) {
            throw new IllegalStateException(face.getName() + " threw " + e.getCause());
        } catch (ReflectiveOperationException e) {
            throw new IllegalStateException(e);
        }
    }

    /** BOXES by rows of six numbers: KIND, LAYER, x, y, WIDTH, HEIGHT. */
    static void place(Grid g, int... rows) {
        for (int n = 0; n + 5 < rows.length; n += 6) {
            g.box(rows[n], rows[n + 1], rows[n + 2], rows[n + 3], rows[n + 4], rows[n + 5]);
        }
    }

    static void dots(Grid g, int many, int x, int y) {
        for (int n = 0; n < many; n++) g.box(0, 0, x, y, 1, 1);
    }

    static void feed(Grid g, String text) {
        for (int n = 0; n < text.length(); n++) g.feed(text.charAt(n));
    }

    static int boxes(Grid g, String text) {
        feed(g, text);
        return g.boxes();
    }

    /** BOXES come by a text, or its FAULT is told, and nothing comes then. */
    static void text(String text, int want) {
        Grid g = fresh();
        due("boxes of " + text, boxes(g, text), want);
        due("BOXES there after " + text, g.count(0), Math.max(want, 0));
    }

    // ---- what changes nothing

    /**
     * BOXES of every KIND, BOX 4 GONE, rows of all sorts, a text begun, and an image that is otherwise than all is now.
     * Now BOX 0 covers 10 .. 17, 10 .. 17, BOX 1 16 .. 19, 12 .. 15, BOX 2 54 .. 61, 68 .. 75, BOX 3 9 .. 28, 110 .. 112.
     */
    static void scene(Grid g) {
        place(g, 0, 0, 10, 10, 8, 8, 1, 1, 12, 14, 4, 4, 2, 1, 60, 60, 8, 8, 3, 0, 100, 2, 20, 3, 1, 0, 3, 3, 1, 1);
        g.speed(1, 2, -1);
        g.speed(2, -3, 4);
        g.speed(3, 9, -9);
        g.see(1, 2, 16);
        g.plan(0, 0);
        g.book(0, 1);
        g.image();
        g.drop(4);
        g.pass(2);
        g.room(2);
        g.speed(1, 1, 1);
        g.see(-1, 0, 0);
        g.see(2, 1, 51);
        g.see(2, 2, 48);
        g.plan(-1, 0);
        g.plan(2, 1);
        g.plan(0, 0);
        g.book(-1, 0);
        g.book(0, 1);
        g.book(2, 3);
        g.book(1, 44);
        for (int tape = 0; tape < 5; tape++) g.tape(tape, tape, 5);
        int[] items = {10, 16, 54, 9, -1};
        for (int i = 0; i < items.length; i++) g.item(0, i, items[i]);
        for (int tape = 1; tape < 5; tape++) g.item(tape, 2, -300);
        feed(g, "m1,1,1:1x");
    }

    private static void tell(List<String> told, String call, long answer) {
        told.add(call + " " + answer);
    }

    private static void tellWorld(Grid g, List<String> told) {
        for (int what = 0; what < 6; what++) {
            tell(told, "count " + what, g.count(what));
            tell(told, "told " + what, g.told(what));
        }
        for (int b = 0; b < 6; b++) {
            for (int what = 0; what < 12; what++) tell(told, "of " + b + " " + what, g.of(b, what));
        }
        for (int b = 1; b < 4; b++) {
            tell(told, "speeds of " + b, g.speeds(b, 0));
            tell(told, "least speed of " + b, g.speeds(b, 1));
        }
        tell(told, "pairs at the end", g.ends(0));
        tell(told, "squares at the end", g.ends(1));
        tell(told, "looked", g.looked());
    }

    private static void tellTape(Grid g, int tape, List<String> told) {
        for (int i = 0; i < 6; i++) tell(told, "read " + tape + " " + i, g.read(tape, i));
        // which sort it is can be seen only by what is left of a great number
        g.item(tape, 0, 0x123456789ABCDEFL);
        tell(told, "sort of " + tape, g.read(tape, 0));
    }

    /** All that can be told of an object, of the text and the image that it keeps, and which number comes next. */
    private static List<String> state(Grid g) {
        List<String> told = new ArrayList<>();
        tellWorld(g, told);
        for (int tape = 0; tape < 6; tape++) tellTape(g, tape, told);
        tell(told, "signs", g.count(5));
        tell(told, "boxes", g.boxes());
        tell(told, "next", g.box(0, 0, 127, 127, 1, 1));
        tell(told, "undo", g.undo());
        tellWorld(g, told);
        tell(told, "next", g.box(0, 0, 127, 127, 1, 1));
        return told;
    }

    /** A call on the scene answers as is due, and all is then as it would be without it. */
    static void keeps(String quote, String name, Ask ask, long want) {
        keeps(quote, name, Sentences::scene, ask, want);
    }

    static void keeps(String quote, String name, Calls before, Ask ask, long want) {
        test(quote, name, g -> {
            before.on(g);
            due("it", ask.of(g), want);
            Grid without = fresh();
            before.on(without);
            List<String> due = state(without);
            List<String> got = state(g);
            for (int n = 0; n < due.size(); n++) {
                if (!got.get(n).equals(due.get(n))) tellWrong("it changed " + got.get(n) + ", due is " + due.get(n));
            }
        });
    }
}
