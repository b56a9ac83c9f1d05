import java.io.IOException;
import java.lang.annotation.Retention;
import java.lang.annotation.RetentionPolicy;
import java.lang.reflect.InvocationTargetException;
import java.lang.reflect.Method;
import java.nio.charset.StandardCharsets;
import java.nio.file.Files;
import java.nio.file.Path;
import java.util.ArrayList;
import java.util.Arrays;
import java.util.Comparator;
import java.util.List;
import java.util.TreeSet;
import java.util.function.IntSupplier;

/** What the tests of boundary cases share: each of these is a method with an Edge. */
final class Edges {
    static final int NONE = SermonPanes.NONE;
    static final int NOTHING = SermonPanes.NOTHING;
    /** Numbers that are far out of every range. */
    static final int[] FAR = {Integer.MIN_VALUE, Integer.MIN_VALUE + 1, -1000, 1 << 16, Integer.MAX_VALUE};

    private static final Path DOCUMENT = Path.of("..", "shared", "DOC.md");
    private static int asked = 0;
    private static int wrong = 0;
    private static String told = "";

    private Edges() {
    }

    /** The promise that a test is for, and the words of the document that name the boundary. */
    @Retention(RetentionPolicy.RUNTIME)
    @interface Edge {
        int promise();

        String says();
    }

    /** Runs every Edge of a class; each promise from the first to the last must have one. */
    static void run(Class<?> tests, int first, int last) throws ReflectiveOperationException, IOException {
        List<Method> edges = new ArrayList<>();
        for (Method method : tests.getDeclaredMethods()) {
            if (method.isAnnotationPresent(Edge.class)) {
                edges.add(method);
            }
        }
        edges.sort(Comparator.comparing((Method m) -> m.getAnnotation(Edge.class).promise())
                .thenComparing(Method::getName));
        TreeSet<Integer> promises = new TreeSet<>();
        String document = Files.isReadable(DOCUMENT) ? plain(Files.readString(DOCUMENT)) : null;
        for (Method edge : edges) {
            Edge about = edge.getAnnotation(Edge.class);
            promises.add(about.promise());
            told = "promise " + about.promise() + ", \"" + about.says() + "\", " + edge.getName();
            // A quotation that the document does not have would be a test of nothing.
            due("quoted from the document", document == null || document.contains(plain(about.says())) ? 1 : 0, 1);
            runOne(edge);
        }
        told = tests.getName();
        for (int promise = first; promise <= last; promise++) {
            due("has an edge of promise " + promise, promises.contains(promise) ? 1 : 0, 1);
        }
        System.out.println(edges.size() + " edges, " + (asked - wrong) + " answers as due, " + wrong + " not");
        if (wrong != 0) {
            System.exit(1);
        }
    }

    private static void runOne(Method edge) throws ReflectiveOperationException {
        int before = asked;
        try {
            edge.invoke(null);
        } catch (InvocationTargetException thrown) {
            due("threw " + thrown.getCause(), 1, 0);
        }
        due("asked anything", asked > before ? 1 : 0, 1);
    }

    private static String plain(String text) {
        return text.replaceAll("\\s+", " ");
    }

    static void due(String what, long got, long want) {
        asked++;
        if (got != want) {
            wrong++;
            System.out.println(told + ": " + what + " answered " + got + ", due is " + want);
        }
    }

    static void same(String what, String got, String want) {
        asked++;
        if (!got.equals(want)) {
            wrong++;
            System.out.println(told + ": " + what + " was " + got + ", due is " + want);
        }
    }

    /** A REFUSED call: its answer, status() and the counts tell so, and nothing else is changed. */
    static void refused(SermonPanes x, int by, String call, IntSupplier made) {
        String before = all(x);
        int[] counts = refusals(x);
        due(call, made.getAsInt(), by);
        due(call + ", then status()", x.status(), by);
        counts[by >= -3 ? -by - 1 : -by - 2]++;
        same(call + ", then count(8 .. 12)", Arrays.toString(refusals(x)), Arrays.toString(counts));
        same(call + ", then all", all(x), before);
    }

    /** A call that is not REFUSED, whatever it answers. */
    static void taken(SermonPanes x, String call, IntSupplier made, int want) {
        int[] counts = refusals(x);
        due(call, made.getAsInt(), want);
        due(call + ", then status()", x.status(), 0);
        same(call + ", then count(8 .. 12)", Arrays.toString(refusals(x)), Arrays.toString(counts));
    }

    static int[] refusals(SermonPanes x) {
        int[] counts = new int[5];
        for (int i = 0; i < 5; i++) {
            counts[i] = x.count(8 + i);
        }
        return counts;
    }

    /** What calls may change, the TAPE aside. */
    static String all(SermonPanes x) {
        StringBuilder text = new StringBuilder();
        int[] whats = {0, 1, 3, 4, 5, 6, 13, 14, 15, 16};
        for (int what : whats) {
            text.append(what).append(':').append(x.count(what)).append(' ');
        }
        for (int pane = 0; pane < 16; pane++) {
            text.append('[').append(x.at(pane, 0)).append(' ').append(x.at(pane, 1)).append(' ')
                    .append(x.at(pane, 2)).append(']');
        }
        for (int listener = 0; listener < x.count(1); listener++) {
            text.append('(').append(x.has(listener, 0)).append(' ').append(x.has(listener, 1)).append(')');
        }
        return text.append(" leads ").append(x.leads()).toString();
    }

    private static int number(byte[] bytes, int from) {
        int all = 0;
        for (int i = 0; i < 4; i++) {
            all = all << 8 | (from + i < bytes.length ? bytes[from + i] & 255 : 32);
        }
        return all;
    }

    static void tape(SermonPanes x, byte[] bytes) {
        x.end(0);
        for (int from = 0; from < bytes.length; from += 20) {
            x.feed(number(bytes, from), number(bytes, from + 4), number(bytes, from + 8),
                    number(bytes, from + 12), number(bytes, from + 16));
        }
        x.end(bytes.length);
    }

    static void tape(SermonPanes x, String text) {
        tape(x, text.getBytes(StandardCharsets.ISO_8859_1));
    }

    static int law(SermonPanes x, String text) {
        tape(x, text);
        return x.law();
    }

    static int orders(SermonPanes x, String text) {
        tape(x, text);
        return x.orders();
    }

    static int row(SermonPanes x, int... bytes) {
        byte[] all = new byte[bytes.length];
        for (int i = 0; i < bytes.length; i++) {
            all[i] = (byte) bytes[i];
        }
        tape(x, all);
        return x.row();
    }

    /** A church with a LAW in FORCE. */
    static SermonPanes under(String text) {
        SermonPanes x = new SermonPanes();
        due("law " + text, law(x, text), 0);
        x.force(0);
        return x;
    }

    /** A church with WORDS, each of a HUE and a FORCE. */
    static SermonPanes with(int... huesAndForces) {
        return add(new SermonPanes(), huesAndForces);
    }

    static SermonPanes add(SermonPanes x, int... huesAndForces) {
        for (int i = 0; i < huesAndForces.length; i += 2) {
            x.word(huesAndForces[i], huesAndForces[i + 1]);
        }
        return x;
    }

    /** A church with LISTENERS, each on a SEAT with a SPIRIT. */
    static SermonPanes seating(SermonPanes x, int... seatsAndSpirits) {
        for (int i = 0; i < seatsAndSpirits.length; i += 2) {
            x.listener(seatsAndSpirits[i], seatsAndSpirits[i + 1]);
        }
        return x;
    }

    static String times(String text, int n) {
        return text.repeat(n);
    }
}
