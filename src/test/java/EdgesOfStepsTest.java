/** Boundary cases of promises 18 to 23: to PREACH, to SCRAPE, to WALK, to SIT, an HOUR, and these undone. */
public final class EdgesOfStepsTest {
    private static void due(String what, long got, long want) {
        Edges.due(what, got, want);
    }

    @Edges.Edge(promise = 18, says = "-2 there is no such WORD, LISTENER, LAW, IMAGE")
    static void preachNoSuchWord() {
        SermonPanes x = new SermonPanes();
        Edges.refused(x, -2, "preach(0) without WORDS", () -> x.preach(0));
        SermonPanes y = Edges.with(0, 5);
        Edges.refused(y, -2, "preach(-1)", () -> y.preach(-1));
        Edges.refused(y, -2, "preach(1)", () -> y.preach(1));
        SermonPanes z = Edges.with(0, 1, 0, 1, 0, 1, 0, 1, 0, 1, 0, 1, 0, 1, 2, 1);
        Edges.refused(z, -2, "preach(8)", () -> z.preach(8));
        Edges.taken(z, "preach(7)", () -> z.preach(7), 1);
        for (int far : Edges.FAR) {
            SermonPanes w = Edges.with(0, 5);
            Edges.refused(w, -2, "preach(" + far + ")", () -> w.preach(far));
        }
    }

    @Edges.Edge(promise = 18, says = "To PREACH a WORD that is not BARRED")
    static void preachABarredWord() {
        SermonPanes x = Edges.add(Edges.under("bars if word = 1"), 0, 5, 0, 5);
        Edges.refused(x, -3, "preach(1)", () -> x.preach(1));
        Edges.taken(x, "preach(0)", () -> x.preach(0), 33);
        SermonPanes y = Edges.add(Edges.under("bars"), 0, 5);
        Edges.refused(y, -2, "no such WORD, all being BARRED", () -> y.preach(1));
    }

    @Edges.Edge(promise = 18, says = "each PANE has as much more of its HUE as that STAINS it (99 at most), all asked as it was ahead.")
    static void preachTo99() {
        SermonPanes x = Edges.add(Edges.under("stains 5"), 1, 9);
        Edges.row(x, 0, 0, 93, 0, 1, 0, 94, 0, 2, 0, 95, 0, 3, 0, 99, 0);
        due("12 times 5, 5, 5, 4, 0", x.preach(0), 74);
        due("93 and 5", x.at(0, 1), 98);
        due("94 and 5", x.at(1, 1), 99);
        due("95 and 5", x.at(2, 1), 99);
        due("99 and 5", x.at(3, 1), 99);
        due("another HUE", x.at(0, 0), 0);
    }

    @Edges.Edge(promise = 18, says = "To PREACH: how much all PANES got together.")
    static void preachTheLeastAndTheMost() {
        SermonPanes x = Edges.add(Edges.under("stains 0"), 2, 9);
        Edges.taken(x, "nothing", () -> x.preach(0), 0);
        due("can be undone", x.count(6), 1);
        SermonPanes y = Edges.add(Edges.under("stains 20"), 2, 9);
        Edges.taken(y, "20 each", () -> y.preach(0), 320);
        SermonPanes z = Edges.with(2, 1);
        Edges.taken(z, "1 at the PULPIT alone", () -> z.preach(0), 1);
    }

    @Edges.Edge(promise = 18, says = "all asked as it was ahead")
    static void preachAskedAsItWasAhead() {
        // Each PANE is asked with what it has ahead, and how many times is not twice.
        SermonPanes x = Edges.add(Edges.under("stains 1 + red"), 0, 9);
        due("1 each", x.preach(0), 16);
        due("2 each", x.preach(0), 32);
        due("3 in all", x.at(15, 0), 3);
    }

    @Edges.Edge(promise = 19, says = "To SCRAPE: what it has then. -1; -3.")
    static void scrapeNoSuchPane() {
        SermonPanes x = new SermonPanes();
        Edges.refused(x, -1, "scrape(-1, 0)", () -> x.scrape(-1, 0));
        Edges.refused(x, -1, "scrape(16, 0)", () -> x.scrape(16, 0));
        SermonPanes y = new SermonPanes();
        Edges.row(y, 0, 1, 1, 1, 15, 9, 9, 9);
        Edges.refused(y, -1, "scrape(0, -1)", () -> y.scrape(0, -1));
        Edges.refused(y, -1, "scrape(0, 3)", () -> y.scrape(0, 3));
        Edges.taken(y, "scrape(15, 2)", () -> y.scrape(15, 2), 8);
        for (int far : Edges.FAR) {
            SermonPanes z = new SermonPanes();
            Edges.refused(z, -1, "scrape(" + far + ", 0)", () -> z.scrape(far, 0));
            Edges.refused(z, -1, "scrape(0, " + far + ")", () -> z.scrape(0, far));
        }
    }

    @Edges.Edge(promise = 19, says = "To SCRAPE: one less of a HUE that the PANE has.")
    static void scrapeToNothing() {
        SermonPanes x = new SermonPanes();
        Edges.row(x, 3, 0, 2, 99);
        Edges.taken(x, "of 2", () -> x.scrape(3, 1), 1);
        Edges.taken(x, "of 1", () -> x.scrape(3, 1), 0);
        Edges.refused(x, -3, "of 0", () -> x.scrape(3, 1));
        due("of 99", x.scrape(3, 2), 98);
        due("the red stays", x.at(3, 0), 0);
    }

    @Edges.Edge(promise = 20, says = "To WALK: where the PULPIT was. -1 (where it is, too).")
    static void walkNowhere() {
        SermonPanes x = new SermonPanes();
        Edges.refused(x, -1, "walk(0)", () -> x.walk(0));
        Edges.refused(x, -1, "walk(-1)", () -> x.walk(-1));
        Edges.refused(x, -1, "walk(16)", () -> x.walk(16));
        SermonPanes y = new SermonPanes();
        Edges.taken(y, "walk(15)", () -> y.walk(15), 0);
        Edges.refused(y, -1, "walk(15) again", () -> y.walk(15));
        Edges.taken(y, "walk(0)", () -> y.walk(0), 15);
        for (int far : Edges.FAR) {
            SermonPanes z = new SermonPanes();
            Edges.refused(z, -1, "walk(" + far + ")", () -> z.walk(far));
        }
    }

    @Edges.Edge(promise = 21, says = "To SIT: the SEAT it had. -1; -2; -3 (its own, too).")
    static void sitOnItsOwn() {
        SermonPanes x = Edges.seating(new SermonPanes(), 0, 50, 7, 60);
        Edges.refused(x, -3, "sit(0, 0)", () -> x.sit(0, 0));
        Edges.refused(x, -3, "sit(1, 7)", () -> x.sit(1, 7));
        Edges.taken(x, "sit(1, 6)", () -> x.sit(1, 6), 7);
        Edges.taken(x, "sit(1, 7)", () -> x.sit(1, 7), 6);
    }

    @Edges.Edge(promise = 21, says = "To SIT: a LISTENER on a SEAT that is free.")
    static void sitOnATakenSeat() {
        SermonPanes x = Edges.seating(new SermonPanes(), 0, 50, 7, 60);
        Edges.refused(x, -3, "sit(0, 7)", () -> x.sit(0, 7));
        Edges.refused(x, -3, "sit(1, 0)", () -> x.sit(1, 0));
        Edges.taken(x, "sit(0, 1)", () -> x.sit(0, 1), 0);
        Edges.taken(x, "sit(1, 0), which was left", () -> x.sit(1, 0), 7);
    }

    @Edges.Edge(promise = 21, says = "-1; -2; -3")
    static void sitRefusedInOrder() {
        SermonPanes x = Edges.seating(new SermonPanes(), 0, 50, 7, 60);
        Edges.refused(x, -1, "sit(2, 8): no LISTENER, no SEAT", () -> x.sit(2, 8));
        Edges.refused(x, -1, "sit(0, -1)", () -> x.sit(0, -1));
        Edges.refused(x, -2, "sit(2, 0): no LISTENER, a taken SEAT", () -> x.sit(2, 0));
        SermonPanes y = Edges.seating(new SermonPanes(), 0, 50);
        Edges.refused(y, -1, "sit(0, 8)", () -> y.sit(0, 8));
        Edges.refused(y, -2, "sit(1, 1)", () -> y.sit(1, 1));
        Edges.refused(y, -2, "sit(-1, 1)", () -> y.sit(-1, 1));
        for (int far : Edges.FAR) {
            SermonPanes z = Edges.seating(new SermonPanes(), 0, 50);
            Edges.refused(z, -2, "sit(" + far + ", 1)", () -> z.sit(far, 1));
            Edges.refused(z, -1, "sit(0, " + far + ")", () -> z.sit(0, far));
        }
    }

    @Edges.Edge(promise = 22, says = "it is the next HOUR (at 999 it can't be).")
    static void noHourBehind999() {
        SermonPanes x = Edges.seating(Edges.under("does 5"), 0, 50);
        x.terms(0, 997);
        Edges.taken(x, "at 997", x::pass, 998);
        Edges.taken(x, "at 998", x::pass, 999);
        Edges.refused(x, -3, "at 999", x::pass);
        due("SPIRIT", x.has(0, 1), 60);
    }

    @Edges.Edge(promise = 22, says = "An HOUR: light DOES what it does to all SPIRITS (0 .. 99)")
    static void spiritsWithin0And99() {
        SermonPanes up = Edges.seating(Edges.under("does 9"), 0, 89, 1, 90, 2, 91, 3, 99);
        up.pass();
        int[] higher = {98, 99, 99, 99};
        SermonPanes down = Edges.seating(Edges.under("does 0 - 9"), 0, 10, 1, 9, 2, 8, 3, 0);
        down.pass();
        int[] lower = {1, 0, 0, 0};
        for (int i = 0; i < 4; i++) {
            due("upwards " + i, up.has(i, 1), higher[i]);
            due("downwards " + i, down.has(i, 1), lower[i]);
        }
        SermonPanes none = new SermonPanes();
        Edges.taken(none, "without LISTENERS", none::pass, 1);
        SermonPanes six = Edges.seating(Edges.under("does 1"), 0, 1, 1, 1, 2, 1, 3, 1, 4, 1, 7, 1);
        six.pass();
        due("the sixth", six.has(5, 1), 2);
    }

    @Edges.Edge(promise = 22, says = "all asked as it was ahead; it is the next HOUR")
    static void askedAtTheHourThatPasses() {
        // At HOUR 0 SEAT 0 has the light of COLUMN 0, at HOUR 1 that of COLUMN 1.
        SermonPanes x = Edges.seating(Edges.under("does blue + hour"), 0, 50);
        Edges.row(x, 0, 0, 3, 0, 1, 0, 5, 0);
        x.pass();
        due("by COLUMN 0 and HOUR 0", x.has(0, 1), 53);
        x.pass();
        due("by COLUMN 1 and HOUR 1", x.has(0, 1), 59);
    }

    @Edges.Edge(promise = 23, says = "-3 there is none")
    static void nothingToUndo() {
        SermonPanes x = new SermonPanes();
        Edges.refused(x, -3, "undo() of a new one", x::undo);
        x.pass();
        Edges.taken(x, "undo()", x::undo, 4);
        Edges.refused(x, -3, "undo() once more", x::undo);
    }

    @Edges.Edge(promise = 23, says = "(by ORDERS, too; 16 are kept) is undone: 0 .. 4.")
    static void sixteenAreKept() {
        SermonPanes x = new SermonPanes();
        for (int i = 1; i <= 16; i++) {
            x.pass();
            due("can be undone", x.count(6), i);
        }
        x.walk(7);
        due("16 at most", x.count(6), 16);
        due("the 17th first", x.undo(), 2);
        due("PULPIT", x.count(3), 0);
        for (int i = 0; i < 15; i++) {
            due("undo()", x.undo(), 4);
        }
        due("HOUR, the first is not undone", x.count(14), 1);
        Edges.refused(x, -3, "undo()", x::undo);
    }

    @Edges.Edge(promise = 23, says = "16 are kept")
    static void sixteenAreKeptAgainAndAgain() {
        SermonPanes x = new SermonPanes();
        // Round and round what keeps them: 40 of which 5 are undone each time.
        for (int round = 0; round < 4; round++) {
            for (int i = 0; i < 10; i++) {
                x.walk((x.count(3) + 1) % 16);
            }
            int place = x.count(3);
            for (int i = 0; i < 5; i++) {
                due("undo()", x.undo(), 2);
                due("PULPIT", x.count(3), (place + 15 - i) % 16);
            }
        }
        due("11 are left of 16", x.count(6), 11);
        int place = x.count(3);
        for (int i = 0; i < 11; i++) {
            x.undo();
        }
        due("11 steps back", x.count(3), (place + 5) % 16);
        due("none more", x.undo(), -3);
    }

    @Edges.Edge(promise = 23, says = "16 are kept) is undone")
    static void refusedStepsLeaveTheOldest() {
        for (int kind = 0; kind < 5; kind++) {
            SermonPanes x = Edges.seating(Edges.add(Edges.under("bars if hour = 999"), 0, 5), 0, 50);
            x.terms(0, 983);
            for (int i = 0; i < 16; i++) {
                x.pass();
            }
            due("16 are kept", x.count(6), 16);
            int[] by = {x.preach(0), x.scrape(9, 0), x.walk(0), x.sit(0, 0), x.pass()};
            due("REFUSED", by[kind] < 0 ? 1 : 0, 1);
            for (int i = 15; i >= 0; i--) {
                due("undo()", x.undo(), 4);
                due("HOUR", x.count(14), 983 + i);
            }
        }
    }

    /** Ahead of each of five steps, one of each kind, what all is. */
    private static String[] aheadOfEach(SermonPanes x) {
        String[] ahead = new String[5];
        ahead[0] = Edges.all(x);
        x.preach(0);
        ahead[1] = Edges.all(x);
        x.scrape(0, 0);
        ahead[2] = Edges.all(x);
        x.walk(3);
        ahead[3] = Edges.all(x);
        x.sit(0, 1);
        ahead[4] = Edges.all(x);
        x.pass();
        return ahead;
    }

    @Edges.Edge(promise = 23, says = "is undone: 0 .. 4.")
    static void eachStepUndoneInTurn() {
        SermonPanes twin = Edges.seating(Edges.add(Edges.under("stains 5;does 7"), 0, 9), 0, 50);
        String[] ahead = aheadOfEach(twin);
        SermonPanes x = Edges.seating(Edges.add(Edges.under("stains 5;does 7"), 0, 9), 0, 50);
        x.preach(0);
        x.scrape(0, 0);
        x.walk(3);
        x.sit(0, 1);
        x.pass();
        for (int kind = 4; kind >= 0; kind--) {
            due("undo()", x.undo(), kind);
            Edges.same("behind undo() of " + kind, Edges.all(x), ahead[kind]);
        }
    }

    @Edges.Edge(promise = 23, says = "by ORDERS, too")
    static void ordersUndoneOneByOne() {
        SermonPanes twin = Edges.seating(Edges.add(Edges.under("stains 5;does 7"), 0, 9), 0, 50);
        String[] ahead = aheadOfEach(twin);
        SermonPanes x = Edges.seating(Edges.add(Edges.under("stains 5;does 7"), 0, 9), 0, 50);
        due("orders", Edges.orders(x, "preach 0;scrape 0 of 0;walk 3;sit 0 at 1;pass"), 5);
        Edges.same("as without ORDERS", Edges.all(x), Edges.all(twin));
        for (int kind = 4; kind >= 0; kind--) {
            due("undo()", x.undo(), kind);
            Edges.same("behind undo() of " + kind, Edges.all(x), ahead[kind]);
        }
        due("undo()", x.undo(), -3);
        due("orders", Edges.orders(x, "pass times 20"), 20);
        due("16 of 20", x.count(6), 16);
    }

    @Edges.Edge(promise = 23, says = "The latest preach(), scrape(), walk(), sit(), pass()")
    static void undoneAllIsAsItWas() {
        SermonPanes x = Edges.seating(Edges.under("stains 20;does 9"), 0, 95, 5, 3);
        Edges.add(x, 0, 9);
        Edges.row(x, 0, 90, 0, 1, 7, 99, 1, 0);
        String start = Edges.all(x);
        x.preach(0);
        due("cut off at 99", x.at(0, 0), 99);
        x.undo();
        Edges.same("behind preach()", Edges.all(x), start);
        x.scrape(0, 2);
        x.undo();
        Edges.same("behind scrape()", Edges.all(x), start);
        x.walk(9);
        x.undo();
        Edges.same("behind walk()", Edges.all(x), start);
        x.sit(1, 7);
        x.undo();
        Edges.same("behind sit()", Edges.all(x), start);
        x.pass();
        due("cut off at 99", x.has(0, 1), 99);
        x.undo();
        Edges.same("behind pass()", Edges.all(x), start);
    }

    @Edges.Edge(promise = 23, says = "(nothing that was ahead of a word(), listener(), terms(), row() that was not REFUSED can be undone)")
    static void nothingAheadOfThese() {
        for (int kind = 0; kind < 4; kind++) {
            SermonPanes x = new SermonPanes();
            x.pass();
            if (kind == 0) {
                x.word(0, 1);
            } else if (kind == 1) {
                x.listener(0, 1);
            } else if (kind == 2) {
                x.terms(1, 3);
            } else {
                Edges.row(x, 99);
            }
            due("can be undone behind kind " + kind, x.count(6), 0);
            Edges.refused(x, -3, "undo() behind kind " + kind, x::undo);
            x.walk(1);
            due("what is behind it", x.undo(), 2);
            due("and no more", x.undo(), -3);
        }
    }

    @Edges.Edge(promise = 23, says = "that was not REFUSED can be undone")
    static void refusedOnesLeaveWhatCanBeUndone() {
        SermonPanes x = new SermonPanes();
        x.pass();
        x.word(0, 0);
        x.listener(0, 100);
        x.terms(0, 1000);
        x.row();
        due("behind REFUSED ones", x.count(6), 1);
        x.preach(0);
        x.scrape(0, 0);
        x.walk(0);
        x.sit(0, 0);
        due("REFUSED ones are not kept", x.count(6), 1);
        Edges.law(x, "bars");
        x.force(0);
        x.told(0, 0, 0);
        x.forget();
        x.image(0);
        x.years(0, 1);
        Edges.orders(x, "pass;walk 99");
        due("behind others", x.count(6), 1);
        due("undo()", x.undo(), 4);
        x.terms(0, 999);
        x.pass();
        due("a REFUSED pass() is not kept", x.count(6), 0);
    }

    public static void main(String[] args) throws Exception {
        Edges.run(EdgesOfStepsTest.class, 18, 23);
    }
}
