import java.lang.reflect.Field;
import java.lang.reflect.Method;
import java.lang.reflect.Modifier;
import java.nio.charset.StandardCharsets;
import java.util.Arrays;
import java.util.List;
import java.util.TreeSet;

/** For each promise of the document answers that were worked out by hand from its words. */
public final class PromisesTest {
    private static final int NONE = SermonPanes.NONE;
    private static final int NOTHING = SermonPanes.NOTHING;
    private static int asked = 0;
    private static int wrong = 0;
    private static String promise = "";

    private static void due(String what, long got, long want) {
        asked++;
        if (got != want) {
            wrong++;
            System.out.println(promise + ": " + what + " answered " + got + ", due is " + want);
        }
    }

    /** A call that is REFUSED: its answer, its status and its count all tell so. */
    private static void refused(SermonPanes x, String what, int before, int got, int by) {
        due(what, got, by);
        due(what + ", status", x.status(), by);
        due(what + ", count", x.count(slot(by)), before + 1);
    }

    private static int slot(int by) {
        return by >= -3 ? 7 - by : 6 - by;
    }

    private static int tally(SermonPanes x, int by) {
        return x.count(slot(by));
    }

    private static int number(byte[] bytes, int from) {
        int all = 0;
        for (int i = 0; i < 4; i++) {
            all = all << 8 | (from + i < bytes.length ? bytes[from + i] & 255 : 32);
        }
        return all;
    }

    private static void tape(SermonPanes x, byte[] bytes) {
        x.end(0);
        for (int from = 0; from < bytes.length; from += 20) {
            x.feed(number(bytes, from), number(bytes, from + 4), number(bytes, from + 8),
                    number(bytes, from + 12), number(bytes, from + 16));
        }
        x.end(bytes.length);
    }

    private static int law(SermonPanes x, String text) {
        tape(x, text.getBytes(StandardCharsets.ISO_8859_1));
        return x.law();
    }

    private static int orders(SermonPanes x, String text) {
        tape(x, text.getBytes(StandardCharsets.ISO_8859_1));
        return x.orders();
    }

    private static int row(SermonPanes x, int... bytes) {
        byte[] all = new byte[bytes.length];
        for (int i = 0; i < bytes.length; i++) {
            all[i] = (byte) bytes[i];
        }
        tape(x, all);
        return x.row();
    }

    /** A church under a LAW. */
    private static SermonPanes under(String text) {
        SermonPanes x = new SermonPanes();
        due("law " + text, law(x, text), 0);
        due("force of " + text, x.force(0), NONE);
        return x;
    }

    private static String times(String text, int n) {
        StringBuilder all = new StringBuilder();
        for (int i = 0; i < n; i++) {
            all.append(text);
        }
        return all.toString();
    }

    private static void face() {
        promise = "face";
        TreeSet<String> members = new TreeSet<>();
        for (Method m : SermonPanes.class.getDeclaredMethods()) {
            if (!Modifier.isPrivate(m.getModifiers()) && !m.isSynthetic()) {
                members.add(m.getName() + "/" + m.getParameterCount() + "/" + m.getReturnType() + "/" + m.getModifiers());
            }
        }
        String[] names = ("word/2 of/2 at/2 listener/2 has/2 light/2 terms/2 feed/5 end/1 row/0 leads/0 law/0 orders/0 "
                + "fault/0 stopped/0 force/1 preach/1 scrape/2 walk/1 sit/2 pass/0 undo/0 sermon/5 told/3 forget/0 "
                + "preached/1 look/1 seated/1 cleared/1 apart/1 place/2 way/2 later/2 blackened/1 few/2 years/2 drawn/2 "
                + "image/1 back/1 count/1 status/0").split(" ");
        TreeSet<String> wanted = new TreeSet<>();
        for (String name : names) {
            wanted.add(name + (name.equals("few/2") ? "/long/" : "/int/") + Modifier.PUBLIC);
        }
        due("methods " + members, members.equals(wanted) ? 1 : 0, 1);
        List<String> fields = new java.util.ArrayList<>();
        for (Field f : SermonPanes.class.getDeclaredFields()) {
            if (!Modifier.isPrivate(f.getModifiers())) {
                fields.add(f.getName());
            }
        }
        due("fields " + fields, fields.equals(Arrays.asList("NONE", "NOTHING")) ? 1 : 0, 1);
        due("final", Modifier.isFinal(SermonPanes.class.getModifiers()) ? 1 : 0, 1);
        due("NONE", NONE, -1);
        due("NOTHING", NOTHING, -1000);
    }

    private static void newObject() {
        promise = "1";
        SermonPanes x = new SermonPanes();
        int[] counts = {0, 0, 0, 0, 0, 0, 0, 0, 0, 0, 0, 0, 0, NONE, 0, 3, 0, NONE};
        for (int what = 0; what < counts.length; what++) {
            due("count(" + what + ")", x.count(what), counts[what]);
        }
        for (int pane = 0; pane < 16; pane++) {
            for (int hue = 0; hue < 3; hue++) {
                due("at", x.at(pane, hue), 0);
            }
            due("at 3", x.at(pane, 3), 60);
            due("at 4", x.at(pane, 4), 0);
            due("at 5", x.at(pane, 5), pane / 4 + pane % 4);
        }
        due("status", x.status(), 0);
        due("fault", x.fault(), NONE);
        due("stopped", x.stopped(), NONE);
        due("leads", x.leads(), 0);
        due("undo", x.undo(), -3);
        SermonPanes y = new SermonPanes();
        x.word(0, 1);
        due("another object", y.count(0), 0);
    }

    private static void words() {
        promise = "2";
        SermonPanes x = new SermonPanes();
        refused(x, "word(-1, 1)", 0, x.word(-1, 1), -1);
        refused(x, "word(3, 1)", 1, x.word(3, 1), -1);
        refused(x, "word(0, 0)", 2, x.word(0, 0), -1);
        refused(x, "word(0, 10)", 3, x.word(0, 10), -1);
        for (int i = 0; i < 8; i++) {
            due("word", x.word(i % 3, i + 1), i);
            due("status", x.status(), 0);
        }
        refused(x, "a ninth", 0, x.word(0, 1), -5);
        refused(x, "a ninth that can't be", 4, x.word(0, 0), -1);
        promise = "3";
        for (int i = 0; i < 8; i++) {
            due("hue", x.of(i, 0), i % 3);
            due("force", x.of(i, 1), i + 1);
            due("barred", x.of(i, 2), 0);
        }
        due("of(-1, 0)", x.of(-1, 0), NONE);
        due("of(8, 0)", x.of(8, 0), NONE);
        due("of(0, -1)", x.of(0, -1), NONE);
        due("of(0, 19)", x.of(0, 19), NONE);
        due("of(7, 18)", x.of(7, 18), 2);
        due("of(3, 3 + 9)", x.of(3, 12), 1);
        due("of(2, 3 + 9)", x.of(2, 12), 0);
        x.walk(15);
        due("of(7, 18) behind a walk", x.of(7, 18), 8);
        due("of(7, 3) behind a walk", x.of(7, 3), 2);
        SermonPanes y = under("stains 7;stains 50 if row = 1;stains 0 - 5 if row = 2;stains 1 / [column - 3] if row = 3;bars if word = 1");
        y.word(2, 3);
        y.word(2, 3);
        due("told by a law", y.of(0, 3), 7);
        due("20 at most", y.of(0, 3 + 5), 20);
        due("0 at least", y.of(0, 3 + 9), 0);
        due("a broken one is passed over", y.of(0, 3 + 15), 7);
        due("one by -1 is cut", y.of(0, 3 + 14), 0);
        due("one by -3 is cut", y.of(0, 3 + 12), 0);
        due("not barred", y.of(0, 2), 0);
        due("barred", y.of(1, 2), 1);
        due("a barred one stains", y.of(1, 3), 7);
    }

    private static void panes() {
        promise = "4";
        SermonPanes x = new SermonPanes();
        row(x, 6, 20, 20, 19, 7, 20, 20, 20);
        due("red", x.at(6, 0), 20);
        due("green", x.at(6, 2), 19);
        due("59", x.at(6, 4), 0);
        due("60", x.at(7, 4), 1);
        due("at(-1, 0)", x.at(-1, 0), NONE);
        due("at(16, 0)", x.at(16, 0), NONE);
        due("at(0, -1)", x.at(0, -1), NONE);
        due("at(0, 6)", x.at(0, 6), NONE);
        x.walk(9);
        due("away", x.at(6, 5), 2);
        due("away", x.at(3, 5), 4);
        SermonPanes y = under("blacks away * 10 + column;blacks 1000 if row = 1;blacks 0 - 1 if row = 2;blacks spirit + word + hue + force + 40 if row = 3 and column = 0");
        due("from", y.at(3, 3), 33);
        due("300 at most", y.at(4, 3), 300);
        due("0 at least", y.at(8, 3), 0);
        due("black from 0 on", y.at(8, 4), 1);
        due("-1 for what is not asked of", y.at(12, 3), 36);
        due("black", y.at(0, 4), 1);
        due("not black", y.at(3, 4), 0);
        due("count", y.count(2), 5);
    }

    private static void listeners() {
        promise = "5";
        SermonPanes x = new SermonPanes();
        refused(x, "listener(-1, 0)", 0, x.listener(-1, 0), -1);
        refused(x, "listener(8, 0)", 1, x.listener(8, 0), -1);
        refused(x, "listener(0, -1)", 2, x.listener(0, -1), -1);
        refused(x, "listener(0, 100)", 3, x.listener(0, 100), -1);
        for (int i = 0; i < 6; i++) {
            due("listener", x.listener(7 - i, 90 + i), i);
        }
        refused(x, "taken, and no room", 0, x.listener(2, 0), -3);
        refused(x, "no room", 0, x.listener(1, 0), -5);
        promise = "6";
        due("seat", x.has(5, 0), 2);
        due("spirit", x.has(5, 1), 95);
        due("does", x.has(5, 2), 0);
        due("has(6, 0)", x.has(6, 0), NOTHING);
        due("has(-1, 0)", x.has(-1, 0), NOTHING);
        due("has(0, 3)", x.has(0, 3), NOTHING);
        due("has(0, -1)", x.has(0, -1), NOTHING);
        row(x, 2, 19, 0, 0, 6, 0, 0, 0);
        due("-19 by 10, cut", x.has(5, 2), -1);
        row(x, 2, 0, 59, 0, 6, 0, 59, 0);
        due("9 at most", x.has(5, 2), 9);
        row(x, 2, 59, 0, 0, 6, 59, 0, 0);
        due("-9 at least", x.has(5, 2), -9);
        SermonPanes y = under("does spirit + red * 2;does word + hue + force + away + row + column + 1 if spirit = 9;does 50 if spirit = 3;does 1 / red if spirit = 4");
        y.listener(0, 5);
        y.listener(1, 9);
        y.listener(2, 3);
        y.listener(3, 4);
        row(y, 0, 1, 0, 0);
        due("told by a law", y.has(0, 2), 7);
        due("-1 for what is not asked of", y.has(1, 2), -5);
        due("9 at most", y.has(2, 2), 9);
        due("broken", y.has(3, 2), 4);
        promise = "7";
        row(x, 2, 1, 2, 3, 6, 10, 20, 29, 10, 4, 5, 6, 14, 60, 0, 0);
        due("light(2, 0)", x.light(2, 0), 11);
        due("light(2, 1)", x.light(2, 1), 22);
        due("light(2, 2)", x.light(2, 2), 32);
        due("without a black one", x.light(6, 0), 4);
        due("light(6, 2)", x.light(6, 2), 6);
        due("light(3, 0)", x.light(3, 0), 0);
        x.terms(0, 7);
        due("at another hour", x.light(3, 1), 22);
        due("at another hour", x.light(7, 1), 5);
        due("light(-1, 0)", x.light(-1, 0), NONE);
        due("light(8, 0)", x.light(8, 0), NONE);
        due("light(0, 3)", x.light(0, 3), NONE);
        due("light(0, -1)", x.light(0, -1), NONE);
    }

    private static void terms() {
        promise = "8";
        SermonPanes x = new SermonPanes();
        int[] first = {0, 3, 0};
        int[] highest = {999, 10, 9};
        int refusals = 0;
        for (int what = 0; what < 3; what++) {
            due("what it was", x.terms(what, highest[what]), first[what]);
            refused(x, "too high", refusals++, x.terms(what, highest[what] + 1), -1);
            refused(x, "too low", refusals++, x.terms(what, -1), -1);
            due("count", x.count(14 + what), highest[what]);
            due("what it was", x.terms(what, 0), highest[what]);
        }
        refused(x, "terms(3, 0)", refusals++, x.terms(3, 0), -1);
        refused(x, "terms(-1, 0)", refusals, x.terms(-1, 0), -1);
        SermonPanes y = under("bars if mood = 4 and hour = 2");
        y.word(0, 1);
        y.terms(2, 4);
        due("hour 0", y.of(0, 2), 0);
        y.terms(0, 2);
        due("hour 2", y.of(0, 2), 1);
    }

    private static void tapes() {
        promise = "9";
        SermonPanes x = new SermonPanes();
        for (int i = 1; i <= 20; i++) {
            due("feed", x.feed(0, 0, 0, 0, 0), 20 * i);
        }
        due("more than 400", x.feed(0, 0, 0, 0, 0), NONE);
        due("bytes", x.count(7), 400);
        due("no call that is refused", x.count(8), 0);
        promise = "10";
        due("end(401)", x.end(401), NONE);
        due("end(-1)", x.end(-1), NONE);
        due("end(400)", x.end(400), 400);
        due("end(380)", x.end(380), 380);
        due("end(381)", x.end(381), NONE);
        due("feed", x.feed(0, 0, 0, 0, 0), 400);
        due("end(0)", x.end(0), 0);
        due("bytes", x.count(7), 0);
        promise = "9";
        x.feed(0x01020304, 0xff000000, 0x0f636363, 0x0063ff00, 0x02636400);
        promise = "11";
        due("row", x.row(), 2);
        due("the highest byte first", x.at(1, 0), 2);
        due("the highest byte first", x.at(1, 2), 4);
        due("99", x.at(15, 1), 99);
        due("bytes", x.count(7), 0);
        promise = "12";
        due("leads", x.leads(), 3);
        promise = "11";
        refused(x, "an empty tape", 0, x.row(), -6);
        promise = "12";
        due("leads behind a refused row()", x.leads(), 3);
        due("row", row(x, 1, 9, 9, 9, 1, 8, 8, 8), 2);
        due("leads", x.leads(), 0);
        promise = "11";
        due("the later one stands", x.at(1, 0), 8);
        due("others stay", x.at(15, 1), 99);
        due("leads alone", row(x, 1, 0, 0), 0);
        due("status", x.status(), 0);
        promise = "12";
        due("leads", x.leads(), 1);
    }

    private static void faultOfLaw(String text, int at) {
        SermonPanes x = new SermonPanes();
        if (at == NONE) {
            due("law " + text, law(x, text), 0);
        } else {
            refused(x, "law " + text, 0, law(x, text), -6);
        }
        due("fault of " + text, x.fault(), at);
        due("bytes behind " + text, x.count(7), 0);
        due("laws behind " + text, x.count(5), at == NONE ? 1 : 0);
    }

    private static void laws() {
        promise = "13";
        faultOfLaw("", 0);
        faultOfLaw("   ", 3);
        faultOfLaw("  bars  ", NONE);
        faultOfLaw("bars ;", 6);
        faultOfLaw("bars;;", 5);
        faultOfLaw("bars bars", 5);
        faultOfLaw("bars 1", 5);
        faultOfLaw("Bars", 0);
        faultOfLaw("bars\t", 4);
        faultOfLaw("barsif 1 = 1", 0);
        faultOfLaw("barsz", 0);
        faultOfLaw("bars`", 4);
        faultOfLaw("bars{", 4);
        faultOfLaw("does 1/2", NONE);
        faultOfLaw("does 1:2", 6);
        faultOfLaw("preach 1", 0);
        faultOfLaw("stains1000if1=1", NONE);
        faultOfLaw("stains 0001000", NONE);
        faultOfLaw("stains 1001", 7);
        faultOfLaw("stains 99999999999999999999", 7);
        faultOfLaw("stains 1 + ", 11);
        faultOfLaw("stains + 1", 7);
        faultOfLaw("stains - 1", 7);
        faultOfLaw("stains 1 1", 9);
        faultOfLaw("stains (1)", 7);
        faultOfLaw("stains [1)", 9);
        faultOfLaw("stains []", 8);
        faultOfLaw("stains [1 + 2] * [3 - 4 % 5]", NONE);
        faultOfLaw("does word + hue + force + away + row + column + red + blue + green + spirit + hour + mood", NONE);
        faultOfLaw("does pulpit", 5);
        faultOfLaw("does red 1", 9);
        faultOfLaw("blacks 1 if", 11);
        faultOfLaw("blacks 1 if 1", 13);
        faultOfLaw("blacks 1 if 1 <", 15);
        faultOfLaw("blacks 1 if 1 < 2 < 3", 18);
        faultOfLaw("blacks 1 if not not (1 < 2 or 2 = 3) and 4 > 3", NONE);
        faultOfLaw("blacks 1 if (1 < 2) = 1", 20);
        faultOfLaw("blacks 1 if ([1] < 2", 20);
        faultOfLaw("blacks 1 if [1 < 2]", 15);
        faultOfLaw("blacks 1 if 1 < 2 or", 20);
        faultOfLaw("blacks 1 if 1 < 2 and or", 22);
        faultOfLaw("blacks 1 times 2", 9);
        faultOfLaw("blacks 1 if 1 <= 2", 15);
        faultOfLaw("bars" + times(";bars", 11), NONE);
        faultOfLaw("bars" + times(";bars", 12), 60);
        faultOfLaw("bars" + times(";bars", 11) + ";", 60);
        faultOfLaw("bars" + times(";bars", 11) + "; *", 61);
        faultOfLaw("does 1" + times("+1", 49), NONE);
        faultOfLaw("does 1" + times("+1", 50), 105);
        faultOfLaw("does 1" + times("+1", 24) + " if 1" + times("+1", 23) + "= hour", NONE);
        faultOfLaw("does 1" + times("+1", 24) + " if 1" + times("+1", 24) + "= hour", 109);
        faultOfLaw("does " + times("[", 8) + "1" + times("]", 8) + "+[1]", NONE);
        faultOfLaw("does " + times("[", 9) + "1" + times("]", 9), 13);
        faultOfLaw("bars if " + times("(", 5) + times("[", 3) + "1" + times("]", 3) + "=1" + times(")", 5), NONE);
        faultOfLaw("bars if " + times("(", 5) + times("[", 4) + "1" + times("]", 4) + "=1" + times(")", 5), 16);
        faultOfLaw("bars if " + times("(", 9) + "1=1", 16);
        faultOfLaw("bars if " + times("not ", 96) + "1=1", NONE);
        SermonPanes x = new SermonPanes();
        for (int i = 0; i < 6; i++) {
            due("law", law(x, "bars if hour = " + i), i);
        }
        law(x, "bars 5");
        promise = "15";
        due("a law that found no room read nothing", x.fault(), NONE);
        orders(x, "pass 5");
        due("fault", x.fault(), 5);
        promise = "13";
        refused(x, "a seventh", 1, law(x, "bars"), -5);
        due("bytes", x.count(7), 0);
        promise = "15";
        due("fault stays", x.fault(), 5);
        due("a text without", orders(x, "pass"), 1);
        due("fault", x.fault(), NONE);
    }

    private static void lawsInForce() {
        promise = "17";
        SermonPanes x = new SermonPanes();
        x.word(0, 5);
        law(x, "stains 1");
        law(x, "stains 2");
        due("none yet", x.of(0, 3), 5);
        due("which was", x.force(1), NONE);
        due("status", x.status(), 0);
        due("in force", x.of(0, 3), 2);
        due("which was", x.force(0), 1);
        due("in force", x.count(13), 0);
        refused(x, "force(2)", 0, x.force(2), -2);
        refused(x, "force(-2)", 1, x.force(-2), -2);
        due("still", x.count(13), 0);
        due("none", x.force(NONE), 0);
        due("none", x.of(0, 3), 5);
        due("no refusal", x.count(9), 2);
        promise = "13";
        SermonPanes y = under("bars if 1 = 1 or 1 / 0 = 1;bars if 1 / 0 = 1 or 1 = 1 and word = 9");
        y.word(0, 1);
        due("or asks no more", y.of(0, 2), 1);
        SermonPanes z = under("bars if 1 / 0 = 1 or 1 = 1;bars if not 1 / 0 = 1");
        z.word(0, 1);
        due("broken ahead", z.of(0, 2), 0);
        SermonPanes w = under("bars if not (1 = 2 and 1 % 0 = 1)");
        w.word(0, 1);
        due("and asks no more", w.of(0, 2), 1);
        int[] limits = {1, 0, 1, 0};
        String[] tests = {"1000 * 1000 * 1000 > 0", "1000 * 1000 * 1000 + 1 - 1 > 0", "0 - 1000 * 1000 * 1000 < 0",
            "0 - 1000 * 1000 * 1000 - 1 + 1 < 0"};
        for (int i = 0; i < tests.length; i++) {
            SermonPanes v = under("bars if " + tests[i]);
            v.word(0, 1);
            due(tests[i], v.of(0, 2), limits[i]);
        }
        int[] sums = {14, 1, 2, 3, 9, 16, 5};
        String[] texts = {"2 + 3 * 4", "7 - 4 - 2", "8 / 2 / 2", "[0 - 7] / 2 + 6", "[0 - 7] % 4 + 12", "10 % 4 * 8", "5 % [0 - 3] + 3"};
        for (int i = 0; i < texts.length; i++) {
            SermonPanes v = under("stains " + texts[i]);
            v.word(0, 1);
            due(texts[i], v.of(0, 3), sums[i]);
        }
        SermonPanes u = under("bars if 1 = 1 or 1 = 2 and 1 = 2");
        u.word(0, 1);
        due("and is closer than or", u.of(0, 2), 1);
        SermonPanes t = under("stains 10 * row + column + away;stains word + hue + force if hour = 0 and spirit + 1 = 0;stains red + blue + green if mood = 1");
        t.word(2, 5);
        due("word, hue, force", t.of(0, 3), 7);
        t.terms(2, 1);
        row(t, 0, 1, 2, 3);
        due("what the pane has", t.of(0, 3), 6);
        t.terms(2, 0);
        t.terms(0, 1);
        due("row, column, away", t.of(0, 3 + 5), 13);
        SermonPanes s = under("bars if away + row + column + red + blue + green + spirit = 0 - 7 and word = 1 and hue = 2 and force = 3");
        s.word(2, 3);
        s.word(2, 3);
        due("another word", s.of(0, 2), 0);
        due("-1 for what is not asked of", s.of(1, 2), 1);
    }

    private static void faultOfOrders(String text, int at) {
        SermonPanes x = new SermonPanes();
        refused(x, "orders " + text, 0, orders(x, text), -6);
        due("fault of " + text, x.fault(), at);
        due("bytes behind " + text, x.count(7), 0);
        due("stopped behind " + text, x.stopped(), NONE);
    }

    private static void ordersRead() {
        promise = "14";
        faultOfOrders("", 0);
        faultOfOrders("  ", 2);
        faultOfOrders("bars", 0);
        faultOfOrders("pass 1", 5);
        faultOfOrders("pass;", 5);
        faultOfOrders("pass times", 10);
        faultOfOrders("pass times hour", 11);
        faultOfOrders("pass times 21", 11);
        faultOfOrders("pass times 0", 11);
        faultOfOrders("pass times 2 times 3", 13);
        faultOfOrders("pass if 1 = 1 times 2", 14);
        faultOfOrders("pass if mood = 1", 8);
        faultOfOrders("walk red", 8);
        faultOfOrders("walk red 16", 9);
        faultOfOrders("walk spirit 6", 12);
        faultOfOrders("walk spirit hour", 12);
        faultOfOrders("walk 1001", 5);
        faultOfOrders("scrape 1", 8);
        faultOfOrders("scrape 1 at 2", 9);
        faultOfOrders("sit 1 of 2", 6);
        faultOfOrders("sit 1 at", 8);
        faultOfOrders("pass" + times(";pass", 12), 60);
        faultOfOrders("walk red 1" + times("+red 1", 50), 305);
    }

    private static void ordersRun() {
        promise = "14";
        SermonPanes x = new SermonPanes();
        x.word(0, 5);
        x.word(1, 9);
        x.listener(0, 50);
        due("all kinds", orders(x, "preach 1;scrape 0 of 1 times 2;walk 5;sit 0 at 3;pass"), 6);
        due("status", x.status(), 0);
        due("preached and scraped", x.at(0, 1), 7);
        due("walked", x.count(3), 5);
        due("sat", x.has(0, 0), 3);
        due("passed", x.count(14), 1);
        due("bytes", x.count(7), 0);
        due("asked each time", orders(x, "scrape 0 of 1 times 20 if blue 0 > 4"), 3);
        due("to 4", x.at(0, 1), 4);
        due("a broken if is not run", orders(x, "walk 99 if 1 / 0 = 0;pass if 1 / done = 0"), 0);
        due("done and latest", orders(x, "walk latest + 1 if latest = 0 - 1;preach 0;walk latest % 16 + done times 1 if latest = 33"), 3);
        due("33 % 16 + 2", x.count(3), 3);
        due("pulpit and hour", orders(x, "walk pulpit + 1 times 3;walk hour"), 4);
        due("hour", x.count(3), 1);
        due("black", orders(x, "pass if black = 0;preach 1 times 20;walk 9 if black > 0;walk 8 if black = 0"), 22);
        due("walked by black", x.count(3), 9);
        due("spirit", orders(x, "pass if spirit 0 > 0 and spirit 1 = 0 - 1"), 1);
        due("a text of no deed", orders(x, "pass if 1 = 2"), 0);
        promise = "16";
        due("stopped", x.stopped(), NONE);
        String[] bad = {"pass;walk pulpit", "pass;walk 16", "pass;preach 2", "pass;preach 0 - 1", "pass;scrape 0 of 3",
            "pass;scrape 16 of 0", "pass;scrape 15 of 2", "pass;sit 0 at 3", "pass;sit 1 at 0", "pass;sit 0 at 8",
            "pass;walk 1 / 0", "pass;scrape 0 of 1 % 0", "pass;scrape 0 of 0 times 20"};
        for (String text : bad) {
            promise = "14";
            int undoable = x.count(6);
            int hour = x.count(14);
            refused(x, text, tally(x, -3), orders(x, text), -3);
            due("as it was ahead of " + text, x.count(14), hour);
            due("what can be undone ahead of " + text, x.count(6), undoable);
            promise = "16";
            due("stopped " + text, x.stopped(), 1);
            promise = "15";
            due("fault " + text, x.fault(), NONE);
        }
        promise = "16";
        orders(x, "pass fault");
        due("behind a fault", x.stopped(), NONE);
        orders(x, "walk 99");
        due("the first", x.stopped(), 0);
        x.back(0);
        orders(x, "pass");
        due("none", x.stopped(), NONE);
        promise = "14";
        SermonPanes y = under("bars if hour = 1");
        y.word(0, 1);
        due("a barred word", orders(y, "preach 0;pass;preach 0"), -3);
        due("stopped", y.stopped(), 2);
        due("all as it was", y.at(0, 0), 0);
        due("all as it was", y.count(14), 0);
        y.terms(0, 999);
        due("no hour more", orders(y, "pass"), -3);
    }

    private static void ordersKeepWhatCanBeUndone() {
        promise = "14";
        SermonPanes x = new SermonPanes();
        for (int i = 0; i < 8; i++) {
            x.walk(i + 1);
            x.pass();
        }
        due("16", x.count(6), 16);
        due("none run", orders(x, "pass times 20;walk 8"), -3);
        for (int i = 8; i > 0; i--) {
            due("undo", x.undo(), 4);
            due("undo", x.undo(), 2);
            due("where it was", x.count(3), i - 1);
            due("hour", x.count(14), i - 1);
        }
        due("undo", x.undo(), -3);
    }

    private static void steps() {
        promise = "18";
        SermonPanes x = new SermonPanes();
        refused(x, "preach(0)", 0, x.preach(0), -2);
        x.word(0, 5);
        refused(x, "preach(1)", 1, x.preach(1), -2);
        refused(x, "preach(-1)", 2, x.preach(-1), -2);
        // 5 at the pulpit, then 4, 4, 3, 3, 3, 2, 2, 2, 2, 1, 1, 1 by how far away.
        due("preach(0)", x.preach(0), 33);
        due("at(0, 0)", x.at(0, 0), 5);
        due("at(10, 0)", x.at(10, 0), 1);
        due("at(15, 0)", x.at(15, 0), 0);
        row(x, 0, 97, 0, 0);
        due("99 at most", x.preach(0), 30);
        due("99", x.at(0, 0), 99);
        due("none there", x.preach(0), 28);
        SermonPanes y = under("stains red + 1;bars if hour > 0");
        y.word(0, 1);
        due("1 each", y.preach(0), 16);
        due("2 each", y.preach(0), 32);
        y.pass();
        refused(y, "barred", 0, y.preach(0), -3);
        promise = "19";
        refused(y, "scrape(-1, 0)", 0, y.scrape(-1, 0), -1);
        refused(y, "scrape(16, 0)", 1, y.scrape(16, 0), -1);
        refused(y, "scrape(0, 3)", 2, y.scrape(0, 3), -1);
        refused(y, "scrape(0, -1)", 3, y.scrape(0, -1), -1);
        refused(y, "scrape(0, 1)", 1, y.scrape(0, 1), -3);
        due("scrape(15, 0)", y.scrape(15, 0), 2);
        due("scrape(15, 0)", y.scrape(15, 0), 1);
        due("scrape(15, 0)", y.scrape(15, 0), 0);
        due("scrape(15, 0)", y.scrape(15, 0), -3);
        promise = "20";
        due("walk(15)", y.walk(15), 0);
        due("walk(3)", y.walk(3), 15);
        refused(y, "walk(3)", 4, y.walk(3), -1);
        refused(y, "walk(16)", 5, y.walk(16), -1);
        refused(y, "walk(-1)", 6, y.walk(-1), -1);
        promise = "21";
        x.listener(0, 50);
        x.listener(5, 50);
        refused(x, "sit(0, 8)", tally(x, -1), x.sit(0, 8), -1);
        refused(x, "sit(9, 8)", tally(x, -1), x.sit(9, 8), -1);
        refused(x, "sit(2, 5)", tally(x, -2), x.sit(2, 5), -2);
        refused(x, "sit(-1, 5)", tally(x, -2), x.sit(-1, 5), -2);
        refused(x, "taken", tally(x, -3), x.sit(0, 5), -3);
        refused(x, "its own", tally(x, -3), x.sit(0, 0), -3);
        due("sit(0, 7)", x.sit(0, 7), 0);
        due("sit(1, 0)", x.sit(1, 0), 5);
        due("has(0, 0)", x.has(0, 0), 7);
        promise = "22";
        SermonPanes z = new SermonPanes();
        z.listener(0, 95);
        z.listener(1, 4);
        z.listener(2, 50);
        row(z, 0, 0, 40, 0, 4, 0, 30, 0, 1, 55, 0, 0, 5, 0, 0, 9, 3, 0, 30, 0);
        due("pass", z.pass(), 1);
        due("99 at most", z.has(0, 1), 99);
        due("0 at least", z.has(1, 1), 0);
        due("50", z.has(2, 1), 50);
        due("pass", z.pass(), 2);
        due("at the next hour another column", z.has(0, 1), 94);
        due("at the next hour another column", z.has(2, 1), 53);
        z.terms(0, 998);
        due("pass", z.pass(), 999);
        refused(z, "no hour more", 0, z.pass(), -3);
        due("count", z.count(14), 999);
    }

    private static void undone() {
        promise = "23";
        SermonPanes x = new SermonPanes();
        x.word(0, 9);
        x.listener(0, 98);
        row(x, 0, 0, 30, 0);
        x.preach(0);
        x.scrape(0, 0);
        x.walk(3);
        x.sit(0, 4);
        x.sit(0, 0);
        x.pass();
        due("can be undone", x.count(6), 6);
        due("99", x.has(0, 1), 99);
        due("pass", x.undo(), 4);
        due("98", x.has(0, 1), 98);
        due("hour", x.count(14), 0);
        due("sit", x.undo(), 3);
        due("seat", x.has(0, 0), 4);
        due("sit", x.undo(), 3);
        due("walk", x.undo(), 2);
        due("scrape", x.undo(), 1);
        due("9", x.at(0, 0), 9);
        due("preach", x.undo(), 0);
        due("0", x.at(0, 0), 0);
        due("30", x.at(0, 1), 30);
        refused(x, "none more", 0, x.undo(), -3);
        for (int i = 0; i < 20; i++) {
            x.pass();
        }
        due("16 are kept", x.count(6), 16);
        x.pass();
        x.walk(99);
        due("a refused one is not kept", x.count(6), 16);
        for (int i = 0; i < 16; i++) {
            due("undo", x.undo(), 4);
        }
        due("undo", x.undo(), -3);
        due("hour", x.count(14), 5);
        for (int kind = 0; kind < 6; kind++) {
            x.pass();
            if (kind == 0) {
                x.word(5, 5);
                x.listener(0, 0);
                x.terms(0, 1000);
                x.end(0);
                x.row();
                law(x, "bars if 1 = 2");
                x.force(0);
                x.told(0, 0, 0);
                x.forget();
                x.image(0);
                x.years(1, 1);
                x.sermon(0, 1, 1, 1, NONE);
                orders(x, "walk 99");
                due("these leave it", x.count(6), 1);
            } else if (kind == 1) {
                x.word(0, 1);
            } else if (kind == 2) {
                x.listener(kind, 0);
            } else if (kind == 3) {
                x.terms(2, 0);
            } else if (kind == 4) {
                row(x, 99);
            } else {
                x.back(0);
            }
            due("what can be undone behind kind " + kind, x.count(6), kind == 0 ? 1 : 0);
        }
        orders(x, "walk 3;preach 0;pass");
        due("by orders", x.undo(), 4);
        due("by orders", x.undo(), 0);
        due("by orders", x.undo(), 2);
        due("by orders", x.count(3), 0);
        SermonPanes y = new SermonPanes();
        y.word(0, 9);
        law(y, "stains 1");
        row(y, 0, 95, 0, 0);
        y.preach(0);
        y.force(0);
        due("by another law", y.undo(), 0);
        due("what was cut off", y.at(0, 0), 95);
        due("none left", y.at(1, 0), 0);
    }

    private static void sermons() {
        promise = "24";
        SermonPanes x = new SermonPanes();
        x.word(1, 5);
        x.word(0, 4);
        x.word(0, 3);
        x.word(1, 1);
        x.word(0, 9);
        x.word(0, 2);
        // red 10 by 4, 3, 9, 2: 4, 4, 2 is the first of three; blue 6: 5, 1.
        int[] row = {0, 1, 1, 3, 5};
        due("10, 6", x.sermon(0, 10, 6, 0, NONE), 5);
        for (int i = 0; i < 5; i++) {
            due("10, 6, the " + i, x.sermon(0, 10, 6, 0, i), row[i]);
        }
        // red 12 by 4, 3, 9, 2: 9 and 3, not 4, 4, 4; blue 11: 5, 5, 1.
        due("12, 11", x.sermon(0, 12, 11, 0, NONE), 5);
        int[] first = {0, 0, 2, 3, 4};
        for (int i = 0; i < 5; i++) {
            due("12, 11, the " + i, x.sermon(0, 12, 11, 0, i), first[i]);
        }
        due("the 5th", x.sermon(0, 12, 11, 0, 5), NONE);
        due("i -2", x.sermon(0, 12, 11, 0, -2), NONE);
        // red 6 by two: 4 and 2 is the first ahead of 3 and 3.
        due("6", x.sermon(0, 6, 0, 0, 0), 1);
        due("6", x.sermon(0, 6, 0, 0, 1), 5);
        due("green can't be", x.sermon(0, 0, 0, 1, NONE), NONE);
        due("green can't be", x.sermon(0, 0, 0, 1, 0), NONE);
        due("1 of red can't be", x.sermon(0, 1, 0, 0, NONE), NONE);
        due("nothing", x.sermon(0, 0, 0, 0, NONE), 0);
        due("nothing's first", x.sermon(0, 0, 0, 0, 0), NONE);
        due("99", x.sermon(0, 99, 0, 0, NONE), 11);
        due("100", x.sermon(0, 100, 0, 0, NONE), NONE);
        due("-1", x.sermon(0, 0, -1, 0, NONE), NONE);
        due("pane 16", x.sermon(16, 0, 0, 0, NONE), NONE);
        due("pane -1", x.sermon(-1, 0, 0, 0, NONE), NONE);
        row(x, 0, 90, 0, 5);
        due("from what it has", x.sermon(0, 99, 0, 5, NONE), 1);
        due("less can't be", x.sermon(0, 89, 0, 5, NONE), NONE);
        due("less can't be", x.sermon(0, 90, 0, 4, NONE), NONE);
        due("further away", x.sermon(5, 9, 0, 0, NONE), 2);
        SermonPanes y = under("bars if word = 0");
        y.word(0, 4);
        y.word(0, 2);
        due("not a barred one", y.sermon(0, 4, 0, 0, NONE), 2);
        due("not a barred one", y.sermon(0, 4, 0, 0, 0), 1);
        due("nothing is changed", y.at(0, 0), 0);
    }

    private static void toldAndPreached() {
        promise = "25";
        SermonPanes x = new SermonPanes();
        refused(x, "told(-1, 0, 0)", 0, x.told(-1, 0, 0), -1);
        refused(x, "told(16, 0, 0)", 1, x.told(16, 0, 0), -1);
        refused(x, "told(0, 3, 0)", 2, x.told(0, 3, 0), -1);
        refused(x, "told(0, -1, 0)", 3, x.told(0, -1, 0), -1);
        refused(x, "told(0, 0, 100)", 4, x.told(0, 0, 100), -1);
        refused(x, "told(0, 0, -1)", 5, x.told(0, 0, -1), -1);
        for (int i = 1; i <= 8; i++) {
            due("told", x.told(15, 2, 0), i);
        }
        refused(x, "a ninth", 0, x.told(0, 0, 0), -5);
        due("count", x.count(4), 8);
        promise = "26";
        due("forget", x.forget(), 8);
        due("forget", x.forget(), 0);
        due("count", x.count(4), 0);
        promise = "27";
        SermonPanes y = under("bars if word = 2");
        y.word(0, 3);
        y.word(0, 2);
        y.word(0, 1);
        y.word(1, 3);
        due("all sets", y.preached(NONE), 16);
        due("the last", y.preached(15), 15);
        due("beyond", y.preached(16), NONE);
        due("i -2", y.preached(-2), NONE);
        y.told(0, 0, 3);
        due("3 of red, a barred one too", y.preached(NONE), 4);
        int[] sets = {1, 6, 9, 14};
        for (int i = 0; i < 4; i++) {
            due("the " + i, y.preached(i), sets[i]);
        }
        promise = "28";
        // At PANE 0 they give 3, 3, 6, 6; at PANE 1 2, 1, 4, 3.
        due("look", y.look(0), 1);
        due("left", y.look(1), 1);
        due("look(2)", y.look(2), NONE);
        due("look(-1)", y.look(-1), NONE);
        promise = "27";
        y.told(1, 1, 0);
        due("no blue", y.preached(NONE), 2);
        due("no blue", y.preached(1), 6);
        y.told(1, 0, 2);
        due("one set", y.preached(0), 1);
        promise = "28";
        due("look with one set", y.look(0), 0);
        due("left with one set", y.look(1), 1);
        y.told(1, 0, 3);
        promise = "27";
        due("no set", y.preached(NONE), 0);
        due("no set", y.preached(0), NONE);
        promise = "28";
        due("no set", y.look(0), NONE);
        due("no set", y.look(1), NONE);
        y.forget();
        // PANE 0 gets 3, 2, 1, 3, and 3 and 6 of four sets each; further away more are alike.
        due("of all sets", y.look(1), mostAlikeOfAll(3, 2, 1, 3));
        due("of all sets", y.look(0), 0);
    }

    private static int mostAlikeOfAll(int... stains) {
        int[] seen = new int[99];
        int most = 0;
        for (int set = 0; set < 1 << stains.length; set++) {
            int all = 0;
            for (int i = 0; i < stains.length; i++) {
                all += (set >> i & 1) * stains[i];
            }
            most = Math.max(most, ++seen[all]);
        }
        return most;
    }

    private static void seats() {
        promise = "29";
        SermonPanes x = new SermonPanes();
        due("none", x.seated(0), 0);
        due("none", x.seated(1), NOTHING);
        x.listener(3, 50);
        x.listener(2, 50);
        row(x, 1, 0, 50, 0, 10, 0, 30, 0, 0, 10, 0, 0);
        due("most", x.seated(0), 8);
        due("of 0", x.seated(1), 1);
        due("of 1", x.seated(2), 6);
        due("seated(3)", x.seated(3), NOTHING);
        due("seated(-1)", x.seated(-1), NOTHING);
        due("nothing is changed", x.has(0, 0), 3);
        x.terms(0, 1);
        due("at another hour", x.seated(1), 0);
        due("at another hour", x.seated(2), 5);
        SermonPanes y = under("does blue if spirit = 1;does [blue] / 2 if spirit = 2");
        y.listener(0, 2);
        y.listener(1, 1);
        row(y, 3, 0, 9, 0, 2, 0, 4, 0);
        due("who has more of it", y.seated(0), 11);
        due("0 gives way", y.seated(1), 2);
        due("1", y.seated(2), 3);
        promise = "30";
        SermonPanes z = new SermonPanes();
        row(z, 0, 60, 5, 0, 4, 20, 20, 20, 9, 0, 59, 0, 13, 99, 99, 99);
        due("6 and 1", z.cleared(0), 7);
        due("none", z.cleared(1), 0);
        due("238", z.cleared(5), 238);
        due("cleared(8)", z.cleared(8), NONE);
        due("cleared(-1)", z.cleared(-1), NONE);
        z.terms(0, 3);
        due("at another hour", z.cleared(1), 7);
        SermonPanes w = under("blacks 10 - red;blacks 0 if column = 3");
        row(w, 0, 6, 0, 0);
        due("asked as now", w.cleared(0), 3);
        due("can't be", w.cleared(3), NONE);
    }

    private static void apart() {
        promise = "31";
        SermonPanes x = new SermonPanes();
        due("no words", x.apart(0), 0);
        due("no words", x.apart(1), 0);
        x.word(0, 3);
        due("one word", x.apart(0), 0);
        x.word(0, 4);
        due("two", x.apart(0), 1);
        due("two", x.apart(1), 1);
        x.word(1, 4);
        due("by hue", x.apart(0), 1);
        due("apart(2)", x.apart(2), NONE);
        due("apart(-1)", x.apart(-1), NONE);
        x.word(1, 4);
        due("two alike", x.apart(0), NONE);
        due("two alike", x.apart(1), NONE);
        SermonPanes y = under("stains 0;stains 1 if word = 0 and column = 3;stains 1 if word = 1 and row = 2");
        y.word(0, 1);
        y.word(0, 1);
        y.word(1, 1);
        // Words 0, 1, 2 are told apart by a pane of column 3 and one of row 2: 3 and 8 are lowest.
        due("two panes", y.apart(0), 2);
        due("two panes", y.apart(1), 1 << 3 | 1 << 8);
        SermonPanes z = under("stains 0;bars");
        z.word(0, 1);
        z.word(1, 1);
        due("0 of any hue is alike", z.apart(0), NONE);
        promise = "32";
        SermonPanes w = under("bars if word = 1;stains 20 - away * 2 if word = 1;stains 5 if word = 2 and away = 2");
        due("no words", w.place(7, 0), 0);
        due("no words", w.place(7, 1), 0);
        w.word(0, 2);
        w.word(0, 9);
        due("there", w.place(7, 0), 7);
        due("without a barred one", w.place(7, 1), 2);
        w.word(2, 1);
        due("the lowest two away", w.place(7, 0), 2);
        due("5", w.place(7, 1), 5);
        due("place(16, 0)", w.place(16, 0), NONE);
        due("place(-1, 0)", w.place(-1, 0), NONE);
        due("place(0, 2)", w.place(0, 2), NONE);
        due("place(0, -1)", w.place(0, -1), NONE);
        due("nothing is changed", w.count(3), 0);
    }

    private static void ways() {
        promise = "33";
        SermonPanes x = new SermonPanes();
        int[] first = {1, 2, 6, 10};
        due("none", x.way(10, NONE), 0);
        for (int i = 0; i < 4; i++) {
            due("the " + i, x.way(10, i), first[i]);
        }
        due("the 4th", x.way(10, 4), NONE);
        due("i -2", x.way(10, -2), NONE);
        due("way(16, -1)", x.way(16, NONE), NONE);
        due("way(-1, -1)", x.way(-1, NONE), NONE);
        due("where it is", x.way(0, NONE), NONE);
        row(x, 1, 60, 0, 0, 8, 60, 0, 0, 10, 60, 0, 0, 0, 60, 0, 0);
        int[] around = {4, 5, 6, 10};
        due("around, both ends aside", x.way(10, NONE), 0);
        for (int i = 0; i < 4; i++) {
            due("around, the " + i, x.way(10, i), around[i]);
        }
        row(x, 6, 60, 0, 0, 9, 60, 0, 0);
        due("not without one", x.way(10, NONE), 1);
        due("not without one", x.way(10, 2), 6);
        x.walk(15);
        int[] upwards = {11, 7, 3, 2};
        due("upwards", x.way(2, NONE), 0);
        for (int i = 0; i < 4; i++) {
            due("upwards, the " + i, x.way(2, i), upwards[i]);
        }
        due("next to it", x.way(14, 0), 14);
        due("next to it", x.way(14, 1), NONE);
        due("nothing is changed", x.count(3), 15);
    }

    private static void later() {
        promise = "34";
        SermonPanes x = new SermonPanes();
        due("no such", x.later(0, 1), NONE);
        x.listener(0, 50);
        row(x, 0, 0, 20, 0, 1, 0, 30, 0, 2, 0, 40, 0, 3, 55, 0, 0, 7, 4, 0, 0);
        int[] spirits = {50, 52, 55, 59, 54, 56, 59, 63, 58};
        for (int n = 0; n < spirits.length; n++) {
            due("later " + n, x.later(0, n), spirits[n]);
        }
        due("n -1", x.later(0, -1), NONE);
        due("n 61", x.later(0, 61), NONE);
        due("n 60", x.later(0, 60), laterByHand(50, 60));
        due("listener -1", x.later(-1, 0), NONE);
        due("listener 1", x.later(1, 0), NONE);
        x.terms(0, 999);
        due("beyond 999: columns 3, 0, 1", x.later(0, 3), 50);
        due("nothing is changed", x.has(0, 1), 50);
        SermonPanes y = under("does hour - 995;blacks 0 if hour > 1000 + 1");
        y.terms(0, 998);
        y.listener(0, 0);
        due("3, 4, 5, 6, 7", y.later(0, 5), 25);
        promise = "35";
        due("blackened(-1)", y.blackened(NONE), 0);
        due("blackened(0)", y.blackened(0), 0);
        due("blackened(1)", y.blackened(1), NONE);
        due("blackened(-2)", y.blackened(-2), NONE);
        law(y, "blacks 0 if row = 1;blacks 0 if column = 1");
        due("blackened(1)", y.blackened(1), 7);
        due("still the first in force", y.count(13), 0);
        y.force(1);
        due("blackened(0)", y.blackened(0), 0);
        due("blackened(-1)", y.blackened(NONE), 0);
        due("count", y.count(2), 7);
    }

    private static int laterByHand(int spirit, int hours) {
        int[] does = {2, 3, 4, -5};
        int s = spirit;
        for (int h = 0; h < hours; h++) {
            s = Math.max(0, Math.min(99, s + does[h % 4]));
        }
        return s;
    }

    private static void few() {
        promise = "36";
        SermonPanes x = new SermonPanes();
        due("none of two", x.few(1, 2), 490000000000L);
        due("one at most of two", x.few(2, 2), 910000000000L);
        due("all of two", x.few(3, 2), 1000000000000L);
        due("none", x.few(20, 0), 1000000000000L);
        due("k 0", x.few(0, 1), -1L);
        due("k 21", x.few(21, 1), -1L);
        due("n -1", x.few(1, -1), -1L);
        due("n 100", x.few(1, 100), -1L);
        long cut = 1000000000000L;
        for (int i = 0; i < 99; i++) {
            cut = cut * 7 / 10;
        }
        due("cut each time", x.few(1, 99), cut);
        x.terms(1, 10);
        due("all come", x.few(5, 5), 0L);
        due("all come", x.few(6, 5), 1000000000000L);
        x.terms(1, 0);
        due("none comes", x.few(1, 99), 1000000000000L);
    }

    private static void years() {
        promise = "37";
        SermonPanes x = new SermonPanes();
        due("ahead of any", x.drawn(0, 0), NONE);
        refused(x, "no words", 0, x.years(0, 1), -3);
        refused(x, "seed -1", 0, x.years(-1, 1), -1);
        refused(x, "seed 1000001", 1, x.years(1000001, 1), -1);
        refused(x, "n 0", 2, x.years(0, 0), -1);
        refused(x, "n 61", 3, x.years(0, 61), -1);
        promise = "38";
        due("ahead of any", x.drawn(0, 0), NONE);
        promise = "37";
        x.word(0, 5);
        x.word(1, 4);
        x.listener(0, 50);
        due("seed 1000000", x.years(1000000, 60) >= 0 ? 1 : 0, 1);
        int[] byHand = yearsByHand(1, 12);
        due("12 years", x.years(1, 12), byHand[0]);
        promise = "38";
        for (int pane = 0; pane < 16; pane++) {
            due("red of " + pane, x.drawn(pane, 0), byHand[1 + pane * 2]);
            due("blue of " + pane, x.drawn(pane, 1), byHand[2 + pane * 2]);
            due("green of " + pane, x.drawn(pane, 2), 0);
        }
        due("on paper", x.at(0, 0), 0);
        due("on paper", x.count(14), 0);
        due("on paper", x.count(3), 0);
        due("drawn(16, 0)", x.drawn(16, 0), NONE);
        due("drawn(-1, 0)", x.drawn(-1, 0), NONE);
        due("drawn(0, 4)", x.drawn(0, 4), NONE);
        due("drawn(0, -1)", x.drawn(0, -1), NONE);
        due("drawn(1, 3)", x.drawn(1, 3), NONE);
        due("drawn(-1, 3)", x.drawn(-1, 3), NONE);
        x.listener(1, 7);
        due("as it was then", x.drawn(1, 3), NONE);
        x.years(0, 99);
        due("a refused one is not kept", x.drawn(0, 0), byHand[1]);
        promise = "37";
        x.terms(0, 999);
        due("at hour 999 it ends", x.years(1, 60), 0);
        promise = "38";
        due("nothing was done", x.drawn(0, 0), 0);
        due("the listener now", x.drawn(1, 3), 7);
        promise = "37";
        SermonPanes y = under("stains 1;bars if hour = 3;does 1");
        y.word(2, 1);
        y.listener(0, 10);
        int[] s = draws(77, 180);
        int preachings = 0;
        for (int i = 0; i < 60; i++) {
            preachings += s[3 * i + 2] % 3 == 0 && i != 3 ? 1 : 0;
        }
        due("60 years", y.years(77, 60), preachings);
        promise = "38";
        due("green", y.drawn(15, 2), preachings);
        due("spirit", y.drawn(0, 3), 70);
        y.terms(0, 990);
        promise = "37";
        preachings = 0;
        for (int i = 0; i < 9; i++) {
            preachings += s[3 * i + 2] % 3 == 0 ? 1 : 0;
        }
        due("9 hours till 999", y.years(77, 60), preachings);
        promise = "38";
        due("spirit", y.drawn(0, 3), 19);
    }

    private static int[] draws(long seed, int n) {
        int[] all = new int[n];
        long s = seed;
        for (int i = 0; i < n; i++) {
            s = (s * 1103 + 12345) % 1000003;
            all[i] = (int) s;
        }
        return all;
    }

    private static int[] yearsByHand(int seed, int n) {
        int[] s = draws(seed, 3 * n);
        int[] all = new int[33];
        int pulpit = 0;
        for (int i = 0; i < n; i++) {
            int word = s[3 * i] % 2;
            if (s[3 * i + 2] % 3 == 1) {
                pulpit = s[3 * i + 1] % 16;
            } else if (s[3 * i + 2] % 3 == 0) {
                all[0]++;
                for (int pane = 0; pane < 16; pane++) {
                    int away = Math.abs(pane / 4 - pulpit / 4) + Math.abs(pane % 4 - pulpit % 4);
                    all[1 + pane * 2 + word] += Math.max(0, 5 - word - away);
                }
            }
        }
        return all;
    }

    private static void images() {
        promise = "39";
        SermonPanes x = new SermonPanes();
        refused(x, "image(-1)", 0, x.image(-1), -1);
        refused(x, "image(2)", 1, x.image(2), -1);
        promise = "40";
        refused(x, "back(-1)", 2, x.back(-1), -1);
        refused(x, "back(2)", 3, x.back(2), -1);
        refused(x, "back(0)", 0, x.back(0), -2);
        promise = "39";
        due("image(0)", x.image(0), 0);
        x.word(0, 9);
        x.listener(3, 30);
        x.terms(0, 5);
        x.terms(1, 6);
        x.terms(2, 7);
        law(x, "stains 3");
        law(x, "stains 4");
        x.force(1);
        x.told(1, 1, 1);
        x.preach(0);
        x.walk(7);
        due("image(1)", x.image(1), 0);
        due("what can be undone stays", x.count(6), 2);
        x.years(5, 20);
        int drawn = x.drawn(0, 0);
        orders(x, "walk 1;walk 1");
        law(x, "bars 7");
        row(x, 77);
        x.feed(0, 0, 0, 0, 0);
        promise = "40";
        due("back(0)", x.back(0), 0);
        due("status", x.status(), 0);
        int[] empty = {0, 0, 0, 0, 0, 0, 0, 20, 4, 1, 1, 0, 1, NONE, 0, 3, 0};
        for (int what = 0; what < empty.length; what++) {
            due("count(" + what + ") of the first", x.count(what), empty[what]);
        }
        due("at", x.at(0, 0), 0);
        due("no such law", x.force(0), -2);
        due("fault is not kept", x.fault(), 5);
        due("stopped is not kept", x.stopped(), 1);
        due("leads are not kept", x.leads(), 1);
        due("years are not kept", x.drawn(0, 0), drawn);
        x.end(0);
        law(x, "stains 9");
        x.force(0);
        x.word(2, 2);
        due("back(1)", x.back(1), 0);
        int[] full = {1, 1, 0, 7, 1, 2, 0, 0, 4, 2, 1, 0, 1, 1, 5, 6, 7};
        for (int what = 0; what < full.length; what++) {
            due("count(" + what + ") of the second", x.count(what), full[what]);
        }
        due("word", x.of(0, 0), 0);
        due("laws as they were", x.of(0, 3), 4);
        x.force(0);
        due("laws as they were", x.of(0, 3), 3);
        due("at", x.at(0, 0), 4);
        due("seat", x.has(0, 0), 3);
        due("spirit", x.has(0, 1), 30);
        due("undo", x.undo(), -3);
        x.preach(0);
        due("images stay", x.back(1), 0);
        due("images stay", x.at(0, 0), 4);
        due("images stay", x.back(0), 0);
        due("images stay", x.count(0), 0);
        x.word(1, 1);
        x.image(0);
        x.back(1);
        x.back(0);
        due("kept anew", x.of(0, 0), 1);
    }

    private static void counts() {
        promise = "41";
        SermonPanes x = new SermonPanes();
        due("count(-1)", x.count(-1), NONE);
        due("count(17)", x.count(17), NONE);
        due("of no call that tells NONE", x.of(0, 0) + x.end(1) + x.sermon(99, 0, 0, 0, 0) + x.blackened(3), -4);
        due("count(8)", x.count(8), 0);
        row(x, 0, 60, 0, 0, 1, 60, 0, 0);
        due("black", x.count(2), 2);
        x.feed(1, 2, 3, 4, 5);
        due("bytes", x.count(7), 20);
        promise = "42";
        x.walk(0);
        due("status", x.status(), -1);
        x.count(0);
        x.forget();
        x.feed(0, 0, 0, 0, 0);
        x.end(0);
        x.at(99, 0);
        x.few(0, 0);
        due("these leave it", x.status(), -1);
        x.force(NONE);
        due("0 with an answer below 0", x.status(), 0);
        x.preach(0);
        due("-2", x.status(), -2);
        x.image(0);
        due("image", x.status(), 0);
        x.undo();
        due("-3", x.status(), -3);
        x.back(0);
        due("back", x.status(), 0);
        x.law();
        due("-6", x.status(), -6);
        x.told(0, 0, 0);
        due("told", x.status(), 0);
        promise = "41";
        int[] refusals = {1, 1, 1, 0, 1};
        for (int i = 0; i < 5; i++) {
            due("count " + (8 + i), x.count(8 + i), refusals[i]);
        }
    }

    public static void main(String[] args) {
        face();
        newObject();
        words();
        panes();
        listeners();
        terms();
        tapes();
        laws();
        lawsInForce();
        ordersRead();
        ordersRun();
        ordersKeepWhatCanBeUndone();
        steps();
        undone();
        sermons();
        toldAndPreached();
        seats();
        apart();
        ways();
        later();
        few();
        years();
        images();
        counts();
        System.out.println(asked - wrong + " answers as due, " + wrong + " not");
        if (wrong != 0) {
            System.exit(1);
        }
    }
}
