import java.util.function.IntSupplier;

/** Boundary cases of promises 37 to 42: YEARS, IMAGES, what is counted, status(). */
public final class EdgesOfImagesTest {
    private static final int NONE = Edges.NONE;

    private static void due(String what, long got, long want) {
        Edges.due(what, got, want);
    }

    /** The DRAWS behind a SEED, ahead of "modulo m". */
    private static int[] draws(long seed, int n) {
        int[] all = new int[n];
        long s = seed;
        for (int i = 0; i < n; i++) {
            s = (s * 1103 + 12345) % 1000003;
            all[i] = (int) s;
        }
        return all;
    }

    /** How many of the first n times a DRAW of 3 is 0. */
    private static int preachings(int seed, int n) {
        int[] s = draws(seed, 3 * n);
        int all = 0;
        for (int i = 0; i < n; i++) {
            all += s[3 * i + 2] % 3 == 0 ? 1 : 0;
        }
        return all;
    }

    @Edges.Edge(promise = 37, says = "s is the SEED (0 .. 1,000,000)")
    static void seedOfYears() {
        SermonPanes x = Edges.with(0, 5);
        Edges.refused(x, -1, "years(-1, 1)", () -> x.years(-1, 1));
        Edges.refused(x, -1, "years(1000001, 1)", () -> x.years(1000001, 1));
        Edges.taken(x, "years(0, 60)", () -> x.years(0, 60), preachings(0, 60));
        Edges.taken(x, "years(1000000, 60)", () -> x.years(1000000, 60), preachings(1000000, 60));
        for (int far : Edges.FAR) {
            int seed = far == 1 << 16 ? 1000002 : far;
            SermonPanes y = Edges.with(0, 5);
            Edges.refused(y, -1, "years(" + seed + ", 1)", () -> y.years(seed, 1));
        }
    }

    @Edges.Edge(promise = 37, says = "YEARS with a SEED, n 1 .. 60, on paper")
    static void howManyYears() {
        SermonPanes x = Edges.add(Edges.seating(Edges.under("does 1"), 0, 10), 0, 5);
        Edges.refused(x, -1, "years(1, 0)", () -> x.years(1, 0));
        Edges.refused(x, -1, "years(1, 61)", () -> x.years(1, 61));
        String before = Edges.all(x);
        Edges.taken(x, "years(1, 1)", () -> x.years(1, 1), preachings(1, 1));
        due("an HOUR", x.drawn(0, 3), 11);
        Edges.taken(x, "years(1, 60)", () -> x.years(1, 60), preachings(1, 60));
        due("60 HOURS", x.drawn(0, 3), 70);
        Edges.same("on paper", Edges.all(x), before);
        for (int far : Edges.FAR) {
            SermonPanes y = Edges.with(0, 5);
            Edges.refused(y, -1, "years(1, " + far + ")", () -> y.years(1, far));
        }
    }

    @Edges.Edge(promise = 37, says = "-1; -3 there are no WORDS.")
    static void yearsWithoutWords() {
        SermonPanes x = new SermonPanes();
        Edges.refused(x, -3, "years(1, 1)", () -> x.years(1, 1));
        Edges.refused(x, -1, "years(-1, 1)", () -> x.years(-1, 1));
        Edges.refused(x, -1, "years(1, 61)", () -> x.years(1, 61));
    }

    @Edges.Edge(promise = 37, says = "Each time (at HOUR 999 it ends)")
    static void yearsEndAt999() {
        SermonPanes x = Edges.add(Edges.seating(Edges.under("stains 1;does 1"), 0, 10), 0, 5);
        x.terms(0, 999);
        Edges.taken(x, "at 999", () -> x.years(1, 60), 0);
        due("no HOUR", x.drawn(0, 3), 10);
        due("nothing PREACHED", x.drawn(0, 0), 0);
        for (int seed = 0; seed < 6; seed++) {
            int kept = seed;
            x.terms(0, 998);
            Edges.taken(x, "at 998 with " + seed, () -> x.years(kept, 60), preachings(seed, 1));
            due("one HOUR", x.drawn(0, 3), 11);
            due("PREACHED once or not", x.drawn(0, 0), preachings(seed, 1));
        }
        x.terms(0, 940);
        due("60 till 1000, 59 till 999", x.years(1, 60), preachings(1, 59));
        due("59 HOURS", x.drawn(0, 3), 69);
        x.terms(0, 939);
        due("60 till 999", x.years(1, 60), preachings(1, 60));
        due("60 HOURS", x.drawn(0, 3), 70);
    }

    @Edges.Edge(promise = 37, says = "at 0 that WORD is PREACHED, if it can be")
    static void yearsOfBarredWords() {
        SermonPanes x = Edges.add(Edges.seating(Edges.under("bars;does 1"), 0, 10), 0, 5);
        Edges.taken(x, "all BARRED", () -> x.years(1, 60), 0);
        due("nothing", x.drawn(0, 0), 0);
        due("the HOURS pass", x.drawn(0, 3), 70);
        SermonPanes none = Edges.add(Edges.under("stains 0"), 0, 5);
        Edges.taken(none, "PREACHED, though nothing is got", () -> none.years(1, 60), preachings(1, 60));
        SermonPanes y = Edges.add(Edges.under("stains 1;bars if word = 1"), 0, 5, 1, 5);
        int[] s = draws(7, 180);
        int all = 0;
        for (int i = 0; i < 60; i++) {
            all += s[3 * i + 2] % 3 == 0 && s[3 * i] % 2 == 0 ? 1 : 0;
        }
        due("one of two BARRED", y.years(7, 60), all);
        due("red", y.drawn(15, 0), all);
        due("blue", y.drawn(15, 1), 0);
    }

    @Edges.Edge(promise = 37, says = "s becomes (s times 1103 and 12345) modulo 1,000,003, it is s modulo m")
    static void drawsWrapAround() {
        // All eight WORDS STAIN by their number and 1: what came together tells which were drawn.
        SermonPanes x = Edges.add(Edges.under("stains word + 1 if away = 0;stains 0 if away > 0"),
                0, 1, 0, 1, 0, 1, 0, 1, 0, 1, 0, 1, 0, 1, 0, 1);
        int[] seeds = {0, 1, 999999, 1000000, 906};
        for (int seed : seeds) {
            int[] s = draws(seed, 36);
            int[] reds = new int[16];
            int pulpit = 0;
            for (int i = 0; i < 12; i++) {
                if (s[3 * i + 2] % 3 == 1) {
                    pulpit = s[3 * i + 1] % 16;
                } else if (s[3 * i + 2] % 3 == 0) {
                    reds[pulpit] = Math.min(99, reds[pulpit] + s[3 * i] % 8 + 1);
                }
            }
            due("years(" + seed + ", 12)", x.years(seed, 12), preachings(seed, 12));
            for (int pane = 0; pane < 16; pane++) {
                due("red of " + pane + " by " + seed, x.drawn(pane, 0), reds[pane]);
            }
        }
    }

    @Edges.Edge(promise = 37, says = "at 1 the PULPIT WALKS to that place, at 2 nothing; then the HOUR passes")
    static void yearsWalkToWhereItIs() {
        // With the PULPIT where a DRAW would have it, the time is none the less one.
        int seed = 0;
        while (draws(seed, 3)[2] % 3 != 1) {
            seed++;
        }
        int kept = seed;
        SermonPanes x = Edges.add(Edges.seating(Edges.under("does 1"), 0, 10), 0, 5);
        int place = draws(seed, 3)[1] % 16;
        if (place != 0) {
            x.walk(place);
        }
        Edges.taken(x, "one time", () -> x.years(kept, 1), 0);
        due("the HOUR passes", x.drawn(0, 3), 11);
        due("the PULPIT stays", x.count(3), place);
    }

    @Edges.Edge(promise = 38, says = "SPIRIT (3) of LISTENER k. NONE.")
    static void drawnOfNoSuch() {
        SermonPanes x = Edges.seating(Edges.with(0, 5), 0, 10);
        for (int what = 0; what < 4; what++) {
            due("ahead of any YEARS, " + what, x.drawn(0, what), NONE);
        }
        x.years(1, 1);
        due("drawn(-1, 0)", x.drawn(-1, 0), NONE);
        due("drawn(16, 0)", x.drawn(16, 0), NONE);
        due("drawn(15, 2)", x.drawn(15, 2), 0);
        due("drawn(0, -1)", x.drawn(0, -1), NONE);
        due("drawn(0, 4)", x.drawn(0, 4), NONE);
        due("drawn(-1, 3)", x.drawn(-1, 3), NONE);
        due("drawn(1, 3)", x.drawn(1, 3), NONE);
        due("drawn(0, 3)", x.drawn(0, 3), 10);
        for (int far : Edges.FAR) {
            due("drawn(" + far + ", 0)", x.drawn(far, 0), NONE);
            due("drawn(" + far + ", 3)", x.drawn(far, 3), NONE);
            due("drawn(0, " + far + ")", x.drawn(0, far), NONE);
        }
    }

    @Edges.Edge(promise = 38, says = "Behind the latest YEARS")
    static void drawnOfTheLatest() {
        SermonPanes x = Edges.seating(Edges.with(0, 5), 0, 10);
        due("REFUSED alone", x.years(1, 0), -1);
        due("none kept", x.drawn(0, 3), NONE);
        x.years(1, 1);
        due("REFUSED", x.years(1, 61), -1);
        due("the earlier one stays", x.drawn(0, 3), 10);
        x.listener(1, 20);
        due("no LISTENER 1 then", x.drawn(1, 3), NONE);
        Edges.row(x, 15, 0, 0, 9);
        due("as it was then", x.drawn(15, 2), 0);
        x.terms(0, 999);
        x.years(1, 1);
        due("LISTENER 1 now", x.drawn(1, 3), 20);
        due("as it is now", x.drawn(15, 2), 9);
    }

    @Edges.Edge(promise = 39, says = "IMAGE k is kept: 0; -1.")
    static void imageOfNoSuch() {
        SermonPanes x = new SermonPanes();
        Edges.refused(x, -1, "image(-1)", () -> x.image(-1));
        Edges.refused(x, -1, "image(2)", () -> x.image(2));
        Edges.taken(x, "image(0)", () -> x.image(0), 0);
        Edges.taken(x, "image(1)", () -> x.image(1), 0);
        for (int far : Edges.FAR) {
            SermonPanes y = new SermonPanes();
            Edges.refused(y, -1, "image(" + far + ")", () -> y.image(far));
        }
    }

    @Edges.Edge(promise = 39, says = "IMAGES 0, 1 keep all")
    static void imagesAreTwo() {
        SermonPanes x = new SermonPanes();
        x.walk(1);
        x.image(0);
        x.walk(2);
        x.image(1);
        due("image() leaves what can be undone", x.count(6), 2);
        x.walk(3);
        x.back(0);
        due("the one", x.count(3), 1);
        x.back(1);
        due("the other", x.count(3), 2);
        x.walk(4);
        x.image(1);
        x.back(0);
        x.back(1);
        due("kept anew", x.count(3), 4);
        x.back(0);
        due("the one stays", x.count(3), 1);
    }

    @Edges.Edge(promise = 40, says = "BACK to IMAGE k: 0. -1; -2 it was not kept.")
    static void backToNoSuch() {
        SermonPanes x = new SermonPanes();
        Edges.refused(x, -1, "back(-1)", () -> x.back(-1));
        Edges.refused(x, -1, "back(2)", () -> x.back(2));
        SermonPanes y = new SermonPanes();
        Edges.refused(y, -2, "back(0)", () -> y.back(0));
        y.image(0);
        Edges.refused(y, -2, "back(1)", () -> y.back(1));
        Edges.taken(y, "back(0)", () -> y.back(0), 0);
        for (int far : Edges.FAR) {
            SermonPanes z = new SermonPanes();
            Edges.refused(z, -1, "back(" + far + ")", () -> z.back(far));
        }
    }

    @Edges.Edge(promise = 40, says = "BACK to one all that it keeps is as it was then (IMAGES stay)")
    static void backToAll() {
        SermonPanes x = new SermonPanes();
        x.image(0);
        String start = Edges.all(x);
        Edges.add(Edges.seating(x, 0, 10), 0, 5);
        Edges.row(x, 3, 4, 5, 6);
        x.terms(0, 9);
        x.terms(1, 9);
        x.terms(2, 9);
        Edges.law(x, "stains 7");
        x.force(0);
        x.told(1, 1, 1);
        x.walk(9);
        x.image(1);
        String then = Edges.all(x);
        x.back(0);
        Edges.same("the first", Edges.all(x), start);
        due("no such WORD", x.of(0, 0), NONE);
        due("all sets of no WORD", x.preached(NONE), 1);
        due("no such LAW", x.force(0), -2);
        Edges.law(x, "stains 3");
        Edges.add(x, 2, 8, 2, 8);
        x.back(1);
        // Behind back() nothing can be undone, what could be when it was kept is not there.
        Edges.same("the second", Edges.all(x), then.replace("6:1 ", "6:0 "));
        due("the LAW as it was", x.of(0, 3), 7);
        due("the WORD as it was", x.of(0, 0), 0);
        due("the FORCE as it was", x.of(0, 1), 5);
        due("TOLD as it was", x.preached(NONE), 0);
        x.forget();
        x.told(0, 0, 7);
        due("TOLD anew", x.preached(NONE), 1);
        x.back(1);
        due("TOLD as it was", x.preached(NONE), 0);
        x.back(0);
        Edges.same("IMAGES stay", Edges.all(x), start);
    }

    @Edges.Edge(promise = 40, says = "what can be undone (nothing, behind back())")
    static void nothingUndoneBehindBack() {
        SermonPanes x = new SermonPanes();
        x.pass();
        x.image(0);
        due("behind image()", x.count(6), 1);
        x.pass();
        x.back(0);
        due("can be undone", x.count(6), 0);
        Edges.refused(x, -3, "undo()", x::undo);
        x.walk(1);
        due("REFUSED", x.back(1), -2);
        due("a REFUSED back() leaves it", x.count(6), 1);
    }

    @Edges.Edge(promise = 40, says = "IMAGES 0, 1 keep all but the TAPE, FAULT, LEADS, where ORDERS stopped, what can be undone")
    static void backLeavesTheRest() {
        SermonPanes x = Edges.seating(Edges.with(0, 5), 0, 10);
        x.image(0);
        Edges.row(x, 99);
        Edges.orders(x, "pass;pass;walk 99");
        Edges.law(x, "bars 5");
        x.years(1, 1);
        x.listener(1, 20);
        x.feed(0, 0, 0, 0, 0);
        int[] counts = Edges.refusals(x);
        x.back(0);
        due("the TAPE", x.count(7), 20);
        due("FAULT", x.fault(), 5);
        due("LEADS", x.leads(), 1);
        due("where ORDERS stopped", x.stopped(), 2);
        due("the latest YEARS", x.drawn(0, 3), 10);
        Edges.same("REFUSED calls", java.util.Arrays.toString(Edges.refusals(x)), java.util.Arrays.toString(counts));
    }

    @Edges.Edge(promise = 41, says = "14 .. 16 TERMS 0 .. 2. NONE for others.")
    static void countOfOthers() {
        SermonPanes x = new SermonPanes();
        due("count(-1)", x.count(-1), NONE);
        due("count(17)", x.count(17), NONE);
        for (int far : Edges.FAR) {
            due("count(" + far + ")", x.count(far), NONE);
        }
        x.terms(0, 5);
        x.terms(1, 6);
        x.terms(2, 7);
        due("count(14)", x.count(14), 5);
        due("count(15)", x.count(15), 6);
        due("count(16)", x.count(16), 7);
        due("count(13)", x.count(13), NONE);
        due("count(12)", x.count(12), 0);
    }

    @Edges.Edge(promise = 41, says = "8 .. 12 how many calls were REFUSED by -1, -2, -3, -5, -6 (IMAGES do not keep that)")
    static void countOfRefusedCalls() {
        SermonPanes x = new SermonPanes();
        x.image(0);
        x.walk(0);
        x.preach(0);
        x.preach(0);
        x.undo();
        x.undo();
        x.undo();
        for (int i = 0; i < 12; i++) {
            x.told(0, 0, 0);
        }
        for (int i = 0; i < 5; i++) {
            x.row();
        }
        Edges.same("1, 2, 3, 4, 5", java.util.Arrays.toString(Edges.refusals(x)), "[1, 2, 3, 4, 5]");
        x.back(0);
        Edges.same("behind back()", java.util.Arrays.toString(Edges.refusals(x)), "[1, 2, 3, 4, 5]");
        Edges.orders(x, "pass;walk 99;walk 99");
        Edges.same("ORDERS are one call", java.util.Arrays.toString(Edges.refusals(x)), "[1, 2, 4, 4, 5]");
    }

    @Edges.Edge(promise = 41, says = "how many calls were REFUSED")
    static void whatIsNotRefused() {
        SermonPanes x = new SermonPanes();
        x.of(9, 9);
        x.at(99, 9);
        x.has(9, 9);
        x.light(9, 9);
        x.end(-1);
        for (int i = 0; i < 21; i++) {
            x.feed(0, 0, 0, 0, 0);
        }
        x.sermon(99, 0, 0, 0, 0);
        x.preached(-2);
        x.look(9);
        x.seated(9);
        x.cleared(9);
        x.apart(9);
        x.place(99, 0);
        x.way(99, 0);
        x.later(9, 9);
        x.blackened(9);
        x.few(0, 0);
        x.drawn(0, 0);
        x.count(99);
        Edges.same("none of these", java.util.Arrays.toString(Edges.refusals(x)), "[0, 0, 0, 0, 0]");
        due("status", x.status(), 0);
        // An answer below 0 that is none by which a call is REFUSED.
        due("force(NONE)", x.force(NONE), NONE);
        Edges.same("nor that", java.util.Arrays.toString(Edges.refusals(x)), "[0, 0, 0, 0, 0]");
    }

    @Edges.Edge(promise = 41, says = "0 WORDS, 1 LISTENERS, 2 BLACK PANES, 3 where the PULPIT is, 4 TOLD, 5 LAWS, 6 how many can be undone, 7 bytes of the TAPE")
    static void countOfTheMost() {
        SermonPanes x = Edges.with(0, 1, 0, 1, 0, 1, 0, 1, 0, 1, 0, 1, 0, 1, 0, 1);
        Edges.seating(x, 0, 1, 1, 1, 2, 1, 3, 1, 4, 1, 5, 1);
        for (int i = 0; i < 8; i++) {
            x.told(0, 0, 0);
        }
        for (int i = 0; i < 6; i++) {
            Edges.law(x, "blacks 0");
        }
        x.force(5);
        for (int i = 0; i < 17; i++) {
            x.pass();
        }
        x.walk(15);
        for (int i = 0; i < 20; i++) {
            x.feed(0, 0, 0, 0, 0);
        }
        int[] most = {8, 6, 16, 15, 8, 6, 16, 400};
        for (int what = 0; what < 8; what++) {
            due("count(" + what + ")", x.count(what), most[what]);
        }
        due("count(13)", x.count(13), 5);
    }

    private static void statusOf(SermonPanes x, String call, IntSupplier made, int status) {
        made.getAsInt();
        due("status() behind " + call, x.status(), status);
    }

    @Edges.Edge(promise = 42, says = "0 if it was not, or ahead of any.")
    static void statusAheadOfAny() {
        SermonPanes x = new SermonPanes();
        due("ahead of any", x.status(), 0);
        x.at(99, 99);
        x.end(9);
        due("ahead of any of these", x.status(), 0);
    }

    @Edges.Edge(promise = 42, says = "What the latest call of word, listener, terms, row, law, orders, force, preach, scrape, walk, sit, pass, undo, told, years, image, back was REFUSED by")
    static void statusOfEach() {
        SermonPanes x = new SermonPanes();
        statusOf(x, "years, -3", () -> x.years(0, 1), -3);
        statusOf(x, "word", () -> x.word(0, 1), 0);
        statusOf(x, "word, -1", () -> x.word(0, 0), -1);
        statusOf(x, "listener", () -> x.listener(0, 1), 0);
        statusOf(x, "listener, -3", () -> x.listener(0, 1), -3);
        statusOf(x, "terms", () -> x.terms(0, 0), 0);
        statusOf(x, "terms, -1", () -> x.terms(9, 0), -1);
        statusOf(x, "row", () -> Edges.row(x, 0, 1, 0, 0), 0);
        statusOf(x, "row, -6", x::row, -6);
        statusOf(x, "law", () -> Edges.law(x, "bars if 1 = 2"), 0);
        statusOf(x, "law, -6", x::law, -6);
        statusOf(x, "orders", () -> Edges.orders(x, "pass"), 0);
        statusOf(x, "orders, -3", () -> Edges.orders(x, "walk 99"), -3);
        statusOf(x, "force", () -> x.force(0), 0);
        statusOf(x, "force, -2", () -> x.force(1), -2);
        statusOf(x, "preach", () -> x.preach(0), 0);
        statusOf(x, "preach, -2", () -> x.preach(1), -2);
        statusOf(x, "scrape", () -> x.scrape(0, 0), 0);
        statusOf(x, "scrape, -3", () -> x.scrape(9, 0), -3);
        statusOf(x, "walk", () -> x.walk(1), 0);
        statusOf(x, "walk, -1", () -> x.walk(1), -1);
        statusOf(x, "sit", () -> x.sit(0, 1), 0);
        statusOf(x, "sit, -2", () -> x.sit(1, 1), -2);
        statusOf(x, "pass", x::pass, 0);
        statusOf(x, "back, -2", () -> x.back(0), -2);
        statusOf(x, "undo", x::undo, 0);
        statusOf(x, "image, -1", () -> x.image(2), -1);
        statusOf(x, "told", () -> x.told(0, 0, 0), 0);
        statusOf(x, "told, -1", () -> x.told(0, 0, 100), -1);
        statusOf(x, "years", () -> x.years(0, 1), 0);
        statusOf(x, "years, -1", () -> x.years(0, 0), -1);
        statusOf(x, "image", () -> x.image(0), 0);
        x.terms(0, 999);
        statusOf(x, "pass, -3", x::pass, -3);
        statusOf(x, "back", () -> x.back(0), 0);
        statusOf(x, "undo, -3", x::undo, -3);
        statusOf(x, "orders that ran none", () -> Edges.orders(x, "pass if 1 = 2"), 0);
        statusOf(x, "orders, -6", x::orders, -6);
        for (int i = 0; i < 8; i++) {
            x.told(0, 0, 0);
        }
        due("told, -5", x.status(), -5);
        x.force(NONE);
        due("0 behind an answer below 0", x.status(), 0);
    }

    @Edges.Edge(promise = 42, says = "was REFUSED by; 0 if it was not")
    static void statusStaysBehindOthers() {
        SermonPanes x = new SermonPanes();
        x.preach(0);
        x.of(0, 0);
        x.at(0, 0);
        x.has(0, 0);
        x.light(0, 0);
        x.feed(0, 0, 0, 0, 0);
        x.end(0);
        x.leads();
        x.fault();
        x.stopped();
        x.sermon(0, 0, 0, 0, NONE);
        x.forget();
        x.preached(NONE);
        x.look(0);
        x.seated(0);
        x.cleared(0);
        x.apart(0);
        x.place(0, 0);
        x.way(1, NONE);
        x.later(0, 0);
        x.blackened(NONE);
        x.few(1, 1);
        x.drawn(0, 0);
        x.count(0);
        due("behind all the others", x.status(), -2);
        due("behind status()", x.status(), -2);
    }

    public static void main(String[] args) throws Exception {
        Edges.run(EdgesOfImagesTest.class, 37, 42);
    }
}
