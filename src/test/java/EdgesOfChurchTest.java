/** Boundary cases of promises 1 to 12: what a church has, its TERMS, its TAPE, a ROW. */
public final class EdgesOfChurchTest {
    private static final int NONE = Edges.NONE;
    private static final int NOTHING = Edges.NOTHING;

    private static void due(String what, long got, long want) {
        Edges.due(what, got, want);
    }

    @Edges.Edge(promise = 1, says = "A church without words.")
    static void newWithoutWords() {
        SermonPanes x = new SermonPanes();
        due("WORDS", x.count(0), 0);
        due("of the first", x.of(0, 0), NONE);
        due("LISTENERS", x.count(1), 0);
        due("TOLD", x.count(4), 0);
        due("LAWS", x.count(5), 0);
        due("bytes", x.count(7), 0);
    }

    @Edges.Edge(promise = 1, says = "0 .. 99 each (0 at first)")
    static void newWithClearPanes() {
        SermonPanes x = new SermonPanes();
        for (int pane = 0; pane < 16; pane++) {
            for (int hue = 0; hue < 3; hue++) {
                due("at(" + pane + ", " + hue + ")", x.at(pane, hue), 0);
            }
        }
        due("BLACK ones", x.count(2), 0);
    }

    @Edges.Edge(promise = 1, says = "The PULPIT at a PANE's place (0 at first)")
    static void newPulpit() {
        SermonPanes x = new SermonPanes();
        due("count(3)", x.count(3), 0);
        due("AWAY of 0", x.at(0, 5), 0);
        due("AWAY of 15", x.at(15, 5), 6);
    }

    @Edges.Edge(promise = 1, says = "TERMS: 0 HOUR 0 .. 999 (0 at first), 1 COMES 0 .. 10 (3), 2 MOOD 0 .. 9 (0).")
    static void newTerms() {
        SermonPanes x = new SermonPanes();
        due("HOUR", x.count(14), 0);
        due("COMES", x.count(15), 3);
        due("MOOD", x.count(16), 0);
    }

    @Edges.Edge(promise = 1, says = "one is in FORCE (NONE at first: no CLAUSE)")
    static void newWithoutLaw() {
        SermonPanes x = Edges.with(0, 9);
        due("count(13)", x.count(13), NONE);
        due("STAINS", x.of(0, 3), 9);
        due("BLACK from", x.at(0, 3), 60);
        due("BARRED", x.of(0, 2), 0);
    }

    @Edges.Edge(promise = 2, says = "WORDS 0 .. 7 (8 at most)")
    static void eightWords() {
        SermonPanes x = new SermonPanes();
        for (int i = 0; i < 8; i++) {
            due("WORD " + i, x.word(i % 3, 1 + i), i);
        }
        due("WORDS", x.count(0), 8);
        Edges.refused(x, -5, "the ninth", () -> x.word(0, 1));
        due("the last", x.of(7, 1), 8);
    }

    @Edges.Edge(promise = 2, says = "HUES 0 (red), 1 (blue), 2 (green)")
    static void hueOfAWord() {
        SermonPanes x = new SermonPanes();
        Edges.refused(x, -1, "word(-1, 5)", () -> x.word(-1, 5));
        Edges.refused(x, -1, "word(3, 5)", () -> x.word(3, 5));
        Edges.taken(x, "word(0, 5)", () -> x.word(0, 5), 0);
        Edges.taken(x, "word(2, 5)", () -> x.word(2, 5), 1);
        due("the lowest HUE", x.of(0, 0), 0);
        due("the highest HUE", x.of(1, 0), 2);
    }

    @Edges.Edge(promise = 2, says = "a HUE, FORCE 1 .. 9")
    static void forceOfAWord() {
        SermonPanes x = new SermonPanes();
        Edges.refused(x, -1, "word(1, 0)", () -> x.word(1, 0));
        Edges.refused(x, -1, "word(1, 10)", () -> x.word(1, 10));
        Edges.taken(x, "word(1, 1)", () -> x.word(1, 1), 0);
        Edges.taken(x, "word(1, 9)", () -> x.word(1, 9), 1);
        due("the least FORCE", x.of(0, 1), 1);
        due("the most FORCE", x.of(1, 1), 9);
    }

    @Edges.Edge(promise = 2, says = "A WORD: its number. -1; -5.")
    static void wordThatCanNotBeWithoutRoom() {
        SermonPanes x = Edges.with(0, 1, 0, 1, 0, 1, 0, 1, 0, 1, 0, 1, 0, 1, 0, 1);
        Edges.refused(x, -1, "word(0, 0) with 8", () -> x.word(0, 0));
        Edges.refused(x, -1, "word(3, 1) with 8", () -> x.word(3, 1));
    }

    @Edges.Edge(promise = 2, says = "-1 a number that can't be")
    static void wordOfNumbersFarOut() {
        for (int far : Edges.FAR) {
            SermonPanes x = new SermonPanes();
            Edges.refused(x, -1, "word(" + far + ", 1)", () -> x.word(far, 1));
            Edges.refused(x, -1, "word(0, " + far + ")", () -> x.word(0, far));
        }
    }

    @Edges.Edge(promise = 3, says = "by how much it STAINS PANE p (3 + p). NONE.")
    static void ofNoSuchWord() {
        SermonPanes x = new SermonPanes();
        due("of(0, 0) without WORDS", x.of(0, 0), NONE);
        Edges.add(x, 2, 5);
        due("of(-1, 0)", x.of(-1, 0), NONE);
        due("of(1, 0)", x.of(1, 0), NONE);
        due("of(1, 3)", x.of(1, 3), NONE);
        for (int far : Edges.FAR) {
            due("of(" + far + ", 0)", x.of(far, 0), NONE);
            due("of(" + far + ", 3)", x.of(far, 3), NONE);
        }
        due("of(0, 0)", x.of(0, 0), 2);
    }

    @Edges.Edge(promise = 3, says = "Of a WORD HUE (what 0), FORCE (1), whether BARRED (2: 1, 0); by how much it STAINS PANE p (3 + p). NONE.")
    static void ofNoSuchThing() {
        SermonPanes x = Edges.with(2, 9);
        due("of(0, -1)", x.of(0, -1), NONE);
        due("of(0, 19)", x.of(0, 19), NONE);
        for (int far : Edges.FAR) {
            due("of(0, " + far + ")", x.of(0, far), NONE);
        }
        due("of PANE 0", x.of(0, 3), 9);
        due("of PANE 15", x.of(0, 18), 3);
        due("no call that is REFUSED", x.count(8) + x.count(9), 0);
    }

    @Edges.Edge(promise = 3, says = "by FORCE less AWAY (0 at least) without")
    static void forceLessAway() {
        SermonPanes x = Edges.with(0, 1, 0, 6, 0, 7);
        due("1 less 0", x.of(0, 3), 1);
        due("1 less 1", x.of(0, 4), 0);
        due("1 less 6", x.of(0, 18), 0);
        due("6 less 6", x.of(1, 18), 0);
        due("7 less 6", x.of(2, 18), 1);
    }

    @Edges.Edge(promise = 3, says = "AWAY of a PANE: how many ROWS and COLUMNS together it is from the PULPIT")
    static void awayBothWays() {
        SermonPanes x = Edges.with(0, 9);
        x.walk(6);
        due("from 6 to 6", x.of(0, 9), 9);
        due("up and left, to 0", x.of(0, 3), 6);
        due("up and right, to 3", x.of(0, 6), 7);
        due("down and left, to 12", x.of(0, 15), 5);
        due("down and right, to 15", x.of(0, 18), 6);
        // The end of one ROW is not next to the start of the next.
        x.walk(3);
        due("from 3 to 4", x.of(0, 7), 5);
    }

    @Edges.Edge(promise = 4, says = "PANES 0 .. 15")
    static void atNoSuchPane() {
        SermonPanes x = new SermonPanes();
        for (int what = 0; what < 6; what++) {
            due("at(-1, " + what + ")", x.at(-1, what), NONE);
            due("at(16, " + what + ")", x.at(16, what), NONE);
        }
        for (int far : Edges.FAR) {
            due("at(" + far + ", 0)", x.at(far, 0), NONE);
            due("at(" + far + ", 5)", x.at(far, 5), NONE);
        }
        due("at(15, 0)", x.at(15, 0), 0);
    }

    @Edges.Edge(promise = 4, says = "whether it is (4: 1, 0), how far AWAY (5). NONE.")
    static void atNoSuchThing() {
        SermonPanes x = new SermonPanes();
        due("at(0, -1)", x.at(0, -1), NONE);
        due("at(0, 6)", x.at(0, 6), NONE);
        for (int far : Edges.FAR) {
            due("at(0, " + far + ")", x.at(0, far), NONE);
        }
        due("at(15, 5)", x.at(15, 5), 6);
        due("no call that is REFUSED", x.count(8), 0);
    }

    @Edges.Edge(promise = 4, says = "a PANE is BLACK from 0 .. 300 on of all HUES together, 60 without")
    static void blackFrom60() {
        SermonPanes x = new SermonPanes();
        Edges.row(x, 0, 20, 20, 19, 1, 20, 20, 20, 2, 0, 0, 60, 3, 59, 0, 0);
        due("59 together", x.at(0, 4), 0);
        due("60 together", x.at(1, 4), 1);
        due("60 of one", x.at(2, 4), 1);
        due("59 of one", x.at(3, 4), 0);
        due("from", x.at(1, 3), 60);
        due("BLACK ones", x.count(2), 2);
    }

    @Edges.Edge(promise = 4, says = "(else the nearest)")
    static void blackFrom300AtMost() {
        SermonPanes x = Edges.under("blacks 299 + column;blacks 1000 * 1000 * 1000 if row = 1");
        Edges.row(x, 2, 99, 99, 99);
        due("299", x.at(0, 3), 299);
        due("300", x.at(1, 3), 300);
        due("301", x.at(2, 3), 300);
        due("1,000,000,000", x.at(4, 3), 300);
        due("297, the most there can be", x.at(2, 4), 0);
    }

    @Edges.Edge(promise = 4, says = "from what on it is BLACK (3)")
    static void blackFrom0AtLeast() {
        SermonPanes x = Edges.under("blacks 1 - column;blacks 0 - 1000 * 1000 * 1000 if row = 1");
        due("1", x.at(0, 3), 1);
        due("0", x.at(1, 3), 0);
        due("-1", x.at(2, 3), 0);
        due("-1,000,000,000", x.at(4, 3), 0);
        due("nothing of 1", x.at(0, 4), 0);
        due("nothing of 0", x.at(1, 4), 1);
        due("BLACK ones: all of ROW 1, 3 of each other ROW", x.count(2), 13);
    }

    @Edges.Edge(promise = 5, says = "SEATS 0 .. 7")
    static void seatOfAListener() {
        SermonPanes x = new SermonPanes();
        Edges.refused(x, -1, "listener(-1, 50)", () -> x.listener(-1, 50));
        Edges.refused(x, -1, "listener(8, 50)", () -> x.listener(8, 50));
        Edges.taken(x, "listener(0, 50)", () -> x.listener(0, 50), 0);
        Edges.taken(x, "listener(7, 50)", () -> x.listener(7, 50), 1);
        due("SEAT", x.has(1, 0), 7);
    }

    @Edges.Edge(promise = 5, says = "a SEAT (each its own), SPIRIT 0 .. 99")
    static void spiritOfAListener() {
        SermonPanes x = new SermonPanes();
        Edges.refused(x, -1, "listener(0, -1)", () -> x.listener(0, -1));
        Edges.refused(x, -1, "listener(0, 100)", () -> x.listener(0, 100));
        Edges.taken(x, "listener(0, 0)", () -> x.listener(0, 0), 0);
        Edges.taken(x, "listener(1, 99)", () -> x.listener(1, 99), 1);
        due("the least", x.has(0, 1), 0);
        due("the most", x.has(1, 1), 99);
    }

    @Edges.Edge(promise = 5, says = "-3 the SEAT is taken")
    static void takenSeat() {
        SermonPanes x = Edges.seating(new SermonPanes(), 4, 50);
        Edges.refused(x, -3, "listener(4, 9)", () -> x.listener(4, 9));
        x.sit(0, 5);
        Edges.refused(x, -3, "listener(5, 9), to which one went", () -> x.listener(5, 9));
        Edges.taken(x, "listener(4, 9), which one left", () -> x.listener(4, 9), 1);
    }

    @Edges.Edge(promise = 5, says = "LISTENERS 0 .. 5 (6 at most)")
    static void sixListeners() {
        SermonPanes x = new SermonPanes();
        for (int i = 0; i < 6; i++) {
            due("LISTENER " + i, x.listener(i, i), i);
        }
        due("LISTENERS", x.count(1), 6);
        Edges.refused(x, -5, "the seventh", () -> x.listener(6, 0));
    }

    @Edges.Edge(promise = 5, says = "The first of these in that order.")
    static void listenerRefusedInOrder() {
        SermonPanes x = Edges.seating(new SermonPanes(), 0, 1, 1, 1, 2, 1, 3, 1, 4, 1, 5, 1);
        Edges.refused(x, -1, "a taken SEAT, no SPIRIT, no room", () -> x.listener(5, 100));
        Edges.refused(x, -3, "a taken SEAT, no room", () -> x.listener(5, 99));
        SermonPanes y = Edges.seating(new SermonPanes(), 0, 1);
        Edges.refused(y, -1, "a taken SEAT, no SPIRIT", () -> y.listener(0, -1));
    }

    @Edges.Edge(promise = 5, says = "A LISTENER: the number. -1;")
    static void listenerOfNumbersFarOut() {
        for (int far : Edges.FAR) {
            SermonPanes x = new SermonPanes();
            Edges.refused(x, -1, "listener(" + far + ", 0)", () -> x.listener(far, 0));
            Edges.refused(x, -1, "listener(0, " + far + ")", () -> x.listener(0, far));
        }
    }

    @Edges.Edge(promise = 6, says = "Of a LISTENER the SEAT (what 0), SPIRIT (1), what light DOES now (2). NOTHING.")
    static void hasNothing() {
        SermonPanes x = new SermonPanes();
        due("has(0, 0) without LISTENERS", x.has(0, 0), NOTHING);
        due("has(0, 2) without LISTENERS", x.has(0, 2), NOTHING);
        Edges.seating(x, 6, 7);
        due("has(-1, 0)", x.has(-1, 0), NOTHING);
        due("has(1, 0)", x.has(1, 0), NOTHING);
        due("has(0, -1)", x.has(0, -1), NOTHING);
        due("has(0, 3)", x.has(0, 3), NOTHING);
        for (int far : Edges.FAR) {
            due("has(" + far + ", 1)", x.has(far, 1), NOTHING);
            due("has(0, " + far + ")", x.has(0, far), NOTHING);
        }
        due("has(0, 0)", x.has(0, 0), 6);
        due("has(0, 1)", x.has(0, 1), 7);
        due("has(0, 2)", x.has(0, 2), 0);
        due("no call that is REFUSED", x.count(9), 0);
    }

    @Edges.Edge(promise = 6, says = "without blue less red by 10, cut (-9 .. 9 likewise)")
    static void lightByTenCut() {
        int[] blues = {9, 10, 19, 20, 0, 0, 0, 0, 50, 50};
        int[] reds = {0, 0, 0, 0, 9, 10, 19, 20, 59, 60};
        int[] does = {0, 1, 1, 2, 0, -1, -1, -2, 0, -1};
        for (int i = 0; i < blues.length; i++) {
            // The blue of one PANE, the red of the other: neither is BLACK by the LAW.
            SermonPanes x = Edges.seating(Edges.under("blacks 300"), 0, 50);
            Edges.row(x, 0, 0, blues[i], 99, 4, reds[i], 0, 99);
            due("blue " + blues[i] + ", red " + reds[i], x.has(0, 2), does[i]);
        }
    }

    @Edges.Edge(promise = 6, says = "light DOES -9 .. 9 to a SPIRIT in an HOUR")
    static void lightNineAtMost() {
        int[] much = {45, 50, 99};
        int[] does = {9, 9, 9};
        for (int i = 0; i < much.length; i++) {
            SermonPanes x = Edges.seating(Edges.under("blacks 300"), 0, 50, 1, 50);
            Edges.row(x, 0, 0, much[i], 0, 4, 0, much[i], 0, 1, much[i], 0, 0, 5, much[i], 0, 0);
            due("blue twice " + much[i], x.has(0, 2), does[i]);
            due("red twice " + much[i], x.has(1, 2), -does[i]);
        }
        String[] told = {"9", "10", "1000 * 1000", "0 - 9", "0 - 10", "0 - 1000 * 1000"};
        int[] cut = {9, 9, 9, -9, -9, -9};
        for (int i = 0; i < told.length; i++) {
            SermonPanes x = Edges.seating(Edges.under("does " + told[i]), 0, 50);
            due("does " + told[i], x.has(0, 2), cut[i]);
        }
    }

    @Edges.Edge(promise = 7, says = "of HUE 0, 1, 2 now (what). NONE.")
    static void lightOfNoSuch() {
        SermonPanes x = new SermonPanes();
        due("light(-1, 0)", x.light(-1, 0), NONE);
        due("light(8, 0)", x.light(8, 0), NONE);
        due("light(0, -1)", x.light(0, -1), NONE);
        due("light(0, 3)", x.light(0, 3), NONE);
        for (int far : Edges.FAR) {
            due("light(" + far + ", 0)", x.light(far, 0), NONE);
            due("light(0, " + far + ")", x.light(0, far), NONE);
        }
        due("light(0, 0)", x.light(0, 0), 0);
        due("light(7, 2)", x.light(7, 2), 0);
    }

    /** PANE p has 1 + p of red: what the two of a SEAT give tells which they are. */
    private static SermonPanes reds() {
        SermonPanes x = new SermonPanes();
        int[] bytes = new int[64];
        for (int pane = 0; pane < 16; pane++) {
            bytes[4 * pane] = pane;
            bytes[4 * pane + 1] = 1 + pane;
        }
        Edges.row(x, bytes);
        return x;
    }

    @Edges.Edge(promise = 7, says = "PANES of COLUMN (s and h) modulo 4")
    static void columnsWrapAround() {
        SermonPanes x = reds();
        // COLUMN c of ROWS 0 and 1: 1 + c and 5 + c; of ROWS 2 and 3: 9 + c and 13 + c.
        int[] hours = {0, 1, 2, 3, 4, 5, 998, 999};
        for (int hour : hours) {
            x.terms(0, hour);
            for (int seat = 0; seat < 8; seat++) {
                int column = (seat + hour) % 4;
                int want = (seat < 4 ? 6 : 22) + 2 * column;
                due("SEAT " + seat + " at " + hour, x.light(seat, 0), want);
            }
        }
        x.terms(0, 1);
        due("SEAT 3 at 1 is at COLUMN 0", x.light(3, 0), 6);
        due("SEAT 7 at 1 is at COLUMN 0", x.light(7, 0), 22);
    }

    @Edges.Edge(promise = 7, says = "of ROWS 0 and 1 for SEATS 0 .. 3, of ROWS 2 and 3 for others")
    static void rowsOfSeats() {
        SermonPanes x = reds();
        due("SEAT 3: PANES 3, 7", x.light(3, 0), 12);
        due("SEAT 4: PANES 8, 12", x.light(4, 0), 22);
        due("SEAT 0: PANES 0, 4", x.light(0, 0), 6);
        due("SEAT 7: PANES 11, 15", x.light(7, 0), 28);
    }

    @Edges.Edge(promise = 7, says = "of each HUE what such PANES have that are not BLACK, together")
    static void lightWithoutBlackOnes() {
        SermonPanes x = new SermonPanes();
        Edges.row(x, 0, 59, 0, 0, 4, 1, 2, 3);
        due("59: not BLACK", x.light(0, 0), 60);
        Edges.row(x, 0, 59, 0, 1);
        due("60: BLACK", x.light(0, 0), 1);
        due("of the other", x.light(0, 2), 3);
        Edges.row(x, 4, 20, 20, 20);
        due("both BLACK", x.light(0, 0), 0);
    }

    @Edges.Edge(promise = 8, says = "0 HOUR 0 .. 999 (0 at first)")
    static void hourOfTerms() {
        SermonPanes x = new SermonPanes();
        Edges.refused(x, -1, "terms(0, -1)", () -> x.terms(0, -1));
        Edges.refused(x, -1, "terms(0, 1000)", () -> x.terms(0, 1000));
        Edges.taken(x, "terms(0, 999)", () -> x.terms(0, 999), 0);
        Edges.taken(x, "terms(0, 0)", () -> x.terms(0, 0), 999);
    }

    @Edges.Edge(promise = 8, says = "1 COMES 0 .. 10 (3)")
    static void comesOfTerms() {
        SermonPanes x = new SermonPanes();
        Edges.refused(x, -1, "terms(1, -1)", () -> x.terms(1, -1));
        Edges.refused(x, -1, "terms(1, 11)", () -> x.terms(1, 11));
        Edges.taken(x, "terms(1, 10)", () -> x.terms(1, 10), 3);
        Edges.taken(x, "terms(1, 0)", () -> x.terms(1, 0), 10);
    }

    @Edges.Edge(promise = 8, says = "2 MOOD 0 .. 9 (0)")
    static void moodOfTerms() {
        SermonPanes x = new SermonPanes();
        Edges.refused(x, -1, "terms(2, -1)", () -> x.terms(2, -1));
        Edges.refused(x, -1, "terms(2, 10)", () -> x.terms(2, 10));
        Edges.taken(x, "terms(2, 9)", () -> x.terms(2, 9), 0);
        Edges.taken(x, "terms(2, 0)", () -> x.terms(2, 0), 9);
    }

    @Edges.Edge(promise = 8, says = "A TERM: what it was. -1.")
    static void noSuchTerm() {
        SermonPanes x = new SermonPanes();
        Edges.refused(x, -1, "terms(-1, 0)", () -> x.terms(-1, 0));
        Edges.refused(x, -1, "terms(3, 0)", () -> x.terms(3, 0));
        for (int far : Edges.FAR) {
            SermonPanes y = new SermonPanes();
            Edges.refused(y, -1, "terms(" + far + ", 0)", () -> y.terms(far, 0));
            Edges.refused(y, -1, "terms(0, " + far + ")", () -> y.terms(0, far));
        }
    }

    @Edges.Edge(promise = 9, says = "NONE, if there would be more than 400.")
    static void fullTape() {
        SermonPanes x = new SermonPanes();
        for (int i = 1; i <= 20; i++) {
            due("feed " + i, x.feed(0, 0, 0, 0, 0), 20 * i);
        }
        due("with 400", x.feed(1, 1, 1, 1, 1), NONE);
        x.end(381);
        due("with 381", x.feed(1, 1, 1, 1, 1), NONE);
        due("bytes then", x.count(7), 381);
        x.end(380);
        due("with 380", x.feed(1, 1, 1, 1, 1), 400);
        due("no call that is REFUSED", x.count(8) + x.count(11), 0);
    }

    @Edges.Edge(promise = 9, says = "TEXTS are on a TAPE of at most 400 bytes.")
    static void textOf400Bytes() {
        SermonPanes x = new SermonPanes();
        String text = "bars if " + " ".repeat(389) + "1=1";
        due("length", text.length(), 400);
        due("law", Edges.law(x, text), 0);
        due("a FAULT in the last byte", Edges.law(x, text.substring(0, 399) + "="), -6);
        due("its place", x.fault(), 399);
        due("a FAULT at the end", Edges.law(x, text.substring(0, 399) + " "), -6);
        due("its place", x.fault(), 400);
    }

    @Edges.Edge(promise = 9, says = "Twenty bytes come behind the TAPE, four of each number, the highest first")
    static void bytesOfNumbers() {
        SermonPanes x = new SermonPanes();
        // The highest byte may be that of a number below 0, any byte may be above 127.
        x.feed(0x00010203, 0x0f636261, 0xff000000, 0x01ff0000, Integer.MIN_VALUE);
        due("row", x.row(), 2);
        due("leads", x.leads(), 3);
        due("red of 0", x.at(0, 0), 1);
        due("green of 0", x.at(0, 2), 3);
        due("red of 15", x.at(15, 0), 99);
        due("blue of 15", x.at(15, 1), 98);
        due("green of 15", x.at(15, 2), 97);
    }

    @Edges.Edge(promise = 10, says = "NONE, if it has not so many, or n is below 0.")
    static void endOutOfTape() {
        SermonPanes x = new SermonPanes();
        due("end(1) of none", x.end(1), NONE);
        due("end(0) of none", x.end(0), 0);
        x.feed(0, 0, 0, 0, 0);
        due("end(21)", x.end(21), NONE);
        due("end(-1)", x.end(-1), NONE);
        for (int far : Edges.FAR) {
            due("end(" + far + ")", x.end(far), NONE);
        }
        due("bytes then", x.count(7), 20);
        due("end(20)", x.end(20), 20);
        due("end(1)", x.end(1), 1);
        due("end(2), which it no longer has", x.end(2), NONE);
        due("end(0)", x.end(0), 0);
        due("bytes then", x.count(7), 0);
        due("no call that is REFUSED", x.count(8), 0);
    }

    @Edges.Edge(promise = 10, says = "The TAPE has its first n bytes alone: n.")
    static void feedBehindTheEnd() {
        SermonPanes x = new SermonPanes();
        x.feed(0x00010101, 0x01090909, 0, 0, 0);
        x.end(4);
        x.feed(0x02020202, 0x03030303, 0x20202020, 0x20202020, 0x20202020);
        x.end(12);
        due("row", x.row(), 3);
        due("what was cut off", x.at(1, 0), 0);
        due("what came there", x.at(2, 0), 2);
    }

    @Edges.Edge(promise = 11, says = "-6 the TAPE is empty.")
    static void rowOfAnEmptyTape() {
        SermonPanes x = new SermonPanes();
        Edges.refused(x, -6, "row()", x::row);
        x.feed(0, 0, 0, 0, 0);
        x.end(0);
        Edges.refused(x, -6, "row() behind end(0)", x::row);
    }

    @Edges.Edge(promise = 11, says = "A ROW, the TAPE is empty then")
    static void emptyBehindARow() {
        SermonPanes x = new SermonPanes();
        due("row", Edges.row(x, 0, 1, 1, 1), 1);
        due("bytes", x.count(7), 0);
        due("again", x.row(), -6);
    }

    @Edges.Edge(promise = 11, says = "a PANE, its HUES; one that can't be")
    static void rowThatCanNotBe() {
        int[][] fours = {{16, 1, 1, 1}, {255, 1, 1, 1}, {3, 100, 1, 1}, {3, 1, 100, 1}, {3, 1, 1, 100},
            {3, 255, 1, 1}, {3, 1, 255, 1}, {3, 1, 1, 255}, {128, 1, 1, 1}};
        for (int[] four : fours) {
            SermonPanes x = new SermonPanes();
            String before = Edges.all(x).replace("leads 0", "leads 1");
            Edges.taken(x, "row", () -> Edges.row(x, four), 0);
            Edges.same("nothing", Edges.all(x), before);
        }
    }

    @Edges.Edge(promise = 11, says = "A ROW: the TAPE's bytes by fours: a PANE, its HUES")
    static void rowOfTheLeastAndTheMost() {
        SermonPanes x = new SermonPanes();
        due("row", Edges.row(x, 0, 99, 0, 99, 15, 0, 99, 0), 2);
        due("at(0, 0)", x.at(0, 0), 99);
        due("at(0, 1)", x.at(0, 1), 0);
        due("at(15, 1)", x.at(15, 1), 99);
        int[] bytes = new int[400];
        for (int i = 0; i < 400; i += 4) {
            bytes[i] = i / 4 % 16;
            bytes[i + 1] = i / 4 % 100;
        }
        due("100 fours", Edges.row(x, bytes), 100);
        due("leads", x.leads(), 0);
        due("the last one", x.at(3, 0), 99);
    }

    @Edges.Edge(promise = 11, says = "one within which the TAPE ends is a LEAD: nothing.")
    static void rowWithinWhichTheTapeEnds() {
        int[] all = {1, 2, 3, 4, 2, 5, 6, 7};
        for (int length = 1; length <= 8; length++) {
            SermonPanes x = new SermonPanes();
            due("row of " + length, Edges.row(x, java.util.Arrays.copyOf(all, length)), length / 4);
            due("leads of " + length, x.leads(), length % 4 == 0 ? 0 : 1);
            due("PANE 1 by " + length, x.at(1, 0), length >= 4 ? 2 : 0);
            due("PANE 2 by " + length, x.at(2, 0), length >= 8 ? 5 : 0);
        }
    }

    @Edges.Edge(promise = 12, says = "(0 ahead of any)")
    static void leadsAheadOfAny() {
        SermonPanes x = new SermonPanes();
        due("leads", x.leads(), 0);
        x.row();
        due("behind a REFUSED one alone", x.leads(), 0);
    }

    @Edges.Edge(promise = 12, says = "How many LEADS the latest row() had that was not REFUSED")
    static void leadsBehindARefusedRow() {
        SermonPanes x = new SermonPanes();
        Edges.row(x, 16, 0, 0, 0, 99, 0, 0, 0, 0, 0);
        due("three", x.leads(), 3);
        due("REFUSED", x.row(), -6);
        due("still three", x.leads(), 3);
        Edges.row(x, 0, 0, 0, 0);
        due("none", x.leads(), 0);
    }

    public static void main(String[] args) throws Exception {
        Edges.run(EdgesOfChurchTest.class, 1, 12);
    }
}
