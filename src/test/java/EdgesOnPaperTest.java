/** Boundary cases of promises 24 to 36: what is only worked out, and what is TOLD. */
public final class EdgesOnPaperTest {
    private static final int NONE = Edges.NONE;
    private static final int NOTHING = Edges.NOTHING;
    private static final long SURE = 1000000000000L;

    private static void due(String what, long got, long want) {
        Edges.due(what, got, want);
    }

    @Edges.Edge(promise = 24, says = "A SERMON for a PANE to have red, blue, green 0 .. 99")
    static void sermonForHuesThatCanNotBe() {
        SermonPanes x = Edges.with(0, 9, 1, 9, 2, 9);
        due("red -1", x.sermon(0, -1, 0, 0, NONE), NONE);
        due("blue -1", x.sermon(0, 0, -1, 0, NONE), NONE);
        due("green -1", x.sermon(0, 0, 0, -1, NONE), NONE);
        due("red 100", x.sermon(0, 100, 0, 0, NONE), NONE);
        due("blue 100", x.sermon(0, 0, 100, 0, NONE), NONE);
        due("green 100", x.sermon(0, 0, 0, 100, NONE), NONE);
        // By 9 each, 108 could come together.
        due("red 108", x.sermon(0, 108, 0, 0, NONE), NONE);
        due("red 99", x.sermon(0, 99, 0, 0, NONE), 11);
        due("all 99", x.sermon(0, 99, 99, 99, NONE), 33);
        due("all 99, the last", x.sermon(0, 99, 99, 99, 32), 2);
        due("all 99, behind the last", x.sermon(0, 99, 99, 99, 33), NONE);
        due("all 0", x.sermon(0, 0, 0, 0, NONE), 0);
        for (int far : Edges.FAR) {
            due("red " + far, x.sermon(0, far, 0, 0, NONE), NONE);
            due("blue " + far, x.sermon(0, 0, far, 0, NONE), NONE);
            due("green " + far, x.sermon(0, 0, 0, far, NONE), NONE);
        }
    }

    @Edges.Edge(promise = 24, says = "how many WORDS (i NONE), the i-th. NONE (it can't be).")
    static void sermonThatCanNotBe() {
        SermonPanes x = Edges.with(0, 4, 0, 6);
        due("red 5", x.sermon(0, 5, 0, 0, NONE), NONE);
        due("red 2", x.sermon(0, 2, 0, 0, NONE), NONE);
        due("red 2, the first", x.sermon(0, 2, 0, 0, 0), NONE);
        due("blue 1, of which there is no WORD", x.sermon(0, 0, 1, 0, NONE), NONE);
        due("red 4, blue 1", x.sermon(0, 4, 1, 0, NONE), NONE);
        due("red 4, blue 1, the first", x.sermon(0, 4, 1, 0, 0), NONE);
        Edges.row(x, 0, 10, 0, 1);
        due("less than it has", x.sermon(0, 9, 0, 1, NONE), NONE);
        due("less of another", x.sermon(0, 14, 0, 0, NONE), NONE);
        due("what it has", x.sermon(0, 10, 0, 1, NONE), 0);
        due("what it has, the first", x.sermon(0, 10, 0, 1, 0), NONE);
        due("4 more", x.sermon(0, 14, 0, 1, NONE), 1);
        Edges.row(x, 0, 0, 7, 0);
        due("4 more, with blue as it is", x.sermon(0, 4, 7, 0, NONE), 1);
        due("less blue", x.sermon(0, 4, 6, 0, NONE), NONE);
        SermonPanes none = new SermonPanes();
        due("nothing without WORDS", none.sermon(15, 0, 0, 0, NONE), 0);
        due("1 without WORDS", none.sermon(15, 0, 0, 1, NONE), NONE);
    }

    @Edges.Edge(promise = 24, says = "the i-th. NONE")
    static void sermonOfNoSuchPlace() {
        SermonPanes x = Edges.with(0, 4);
        due("i 0", x.sermon(0, 8, 0, 0, 0), 0);
        due("i 1", x.sermon(0, 8, 0, 0, 1), 0);
        due("i 2", x.sermon(0, 8, 0, 0, 2), NONE);
        due("i -2", x.sermon(0, 8, 0, 0, -2), NONE);
        due("PANE -1", x.sermon(-1, 0, 0, 0, NONE), NONE);
        due("PANE 16", x.sermon(16, 0, 0, 0, NONE), NONE);
        due("PANE 15", x.sermon(15, 0, 0, 0, NONE), 0);
        for (int far : Edges.FAR) {
            due("i " + far, x.sermon(0, 8, 0, 0, far), NONE);
            due("PANE " + far, x.sermon(far, 0, 0, 0, NONE), NONE);
        }
    }

    @Edges.Edge(promise = 24, says = "by which it has told HUES just so (what comes together, never cut off at 99)")
    static void sermonIsNotCutOff() {
        SermonPanes x = Edges.with(0, 9);
        Edges.row(x, 0, 95, 0, 0);
        due("95 and 9 are not 99", x.sermon(0, 99, 0, 0, NONE), NONE);
        Edges.row(x, 0, 90, 0, 0);
        due("90 and 9 are 99", x.sermon(0, 99, 0, 0, NONE), 1);
    }

    @Edges.Edge(promise = 24, says = "the fewest WORDS (not BARRED, as often as may be, each STAINS as it would now)")
    static void sermonWithoutBarredWords() {
        SermonPanes x = Edges.add(Edges.under("bars if word = 1"), 0, 2, 0, 8);
        due("by the other, four times", x.sermon(0, 8, 0, 0, NONE), 4);
        x.force(NONE);
        due("BARRED no more", x.sermon(0, 8, 0, 0, NONE), 1);
        SermonPanes y = Edges.add(Edges.under("bars"), 0, 2);
        due("nothing, all BARRED", y.sermon(0, 0, 0, 0, NONE), 0);
        due("2, all BARRED", y.sermon(0, 2, 0, 0, NONE), NONE);
        // A WORD that STAINS by 0 is of no use, and by more later is not by now.
        SermonPanes z = Edges.add(Edges.under("stains red"), 0, 2);
        due("by what STAINS not", z.sermon(0, 1, 0, 0, NONE), NONE);
        Edges.row(z, 0, 3, 0, 0);
        due("by 3 each, as now", z.sermon(0, 12, 0, 0, NONE), 3);
    }

    @Edges.Edge(promise = 24, says = "as often as may be")
    static void longestSermon() {
        SermonPanes x = Edges.with(2, 1, 1, 1, 0, 1);
        due("one by one", x.sermon(0, 1, 0, 0, NONE), 1);
        due("99 times", x.sermon(0, 99, 0, 0, NONE), 99);
        due("297 times", x.sermon(0, 99, 99, 99, NONE), 297);
        due("the first", x.sermon(0, 99, 99, 99, 0), 0);
        due("the 98th", x.sermon(0, 99, 99, 99, 98), 0);
        due("the 99th", x.sermon(0, 99, 99, 99, 99), 1);
        due("the last", x.sermon(0, 99, 99, 99, 296), 2);
        due("behind the last", x.sermon(0, 99, 99, 99, 297), NONE);
        SermonPanes all = Edges.with(0, 9, 0, 8, 0, 7, 0, 6, 0, 5, 0, 4, 0, 3, 0, 2);
        due("of eight WORDS", all.sermon(0, 11, 0, 0, NONE), 2);
        due("of eight WORDS, the first", all.sermon(0, 11, 0, 0, 0), 0);
        due("of eight WORDS, the last", all.sermon(0, 11, 0, 0, 1), 7);
        due("1 of eight WORDS", all.sermon(0, 1, 0, 0, NONE), NONE);
    }

    @Edges.Edge(promise = 24, says = "the first as a row of rising WORDS")
    static void firstSermon() {
        // Of 6 by two: 4 and 2 are WORDS 0 and 3, 5 and 1 are 1 and 2.
        SermonPanes x = Edges.with(0, 4, 0, 5, 0, 1, 0, 2);
        due("how many", x.sermon(0, 6, 0, 0, NONE), 2);
        due("the first", x.sermon(0, 6, 0, 0, 0), 0);
        due("the second", x.sermon(0, 6, 0, 0, 1), 3);
        SermonPanes y = Edges.with(2, 9, 1, 9, 0, 9, 1, 9);
        due("rising over HUES", y.sermon(0, 9, 18, 9, 0), 0);
        due("rising over HUES", y.sermon(0, 9, 18, 9, 1), 1);
        due("of two alike the lower, twice", y.sermon(0, 9, 18, 9, 2), 1);
        due("rising over HUES", y.sermon(0, 9, 18, 9, 3), 2);
    }

    @Edges.Edge(promise = 25, says = "a PANE has got 0 .. 99 of a HUE: how often there was. -1; -5.")
    static void toldOfNumbersThatCanNotBe() {
        SermonPanes x = new SermonPanes();
        Edges.refused(x, -1, "told(-1, 0, 0)", () -> x.told(-1, 0, 0));
        Edges.refused(x, -1, "told(16, 0, 0)", () -> x.told(16, 0, 0));
        SermonPanes y = new SermonPanes();
        Edges.refused(y, -1, "told(0, -1, 0)", () -> y.told(0, -1, 0));
        Edges.refused(y, -1, "told(0, 3, 0)", () -> y.told(0, 3, 0));
        SermonPanes z = new SermonPanes();
        Edges.refused(z, -1, "told(0, 0, -1)", () -> z.told(0, 0, -1));
        Edges.refused(z, -1, "told(0, 0, 100)", () -> z.told(0, 0, 100));
        Edges.taken(z, "told(0, 0, 0)", () -> z.told(0, 0, 0), 1);
        Edges.taken(z, "told(15, 2, 99)", () -> z.told(15, 2, 99), 2);
        for (int far : Edges.FAR) {
            SermonPanes w = new SermonPanes();
            Edges.refused(w, -1, "told(" + far + ", 0, 0)", () -> w.told(far, 0, 0));
            Edges.refused(w, -1, "told(0, " + far + ", 0)", () -> w.told(0, far, 0));
            Edges.refused(w, -1, "told(0, 0, " + far + ")", () -> w.told(0, 0, far));
        }
    }

    @Edges.Edge(promise = 25, says = "TOLD, 8 at most")
    static void eightTold() {
        SermonPanes x = new SermonPanes();
        for (int i = 1; i <= 8; i++) {
            due("told", x.told(0, 0, 0), i);
        }
        Edges.refused(x, -5, "the ninth", () -> x.told(0, 0, 0));
        Edges.refused(x, -1, "the ninth, which can't be", () -> x.told(0, 0, 100));
        x.forget();
        Edges.taken(x, "behind forget()", () -> x.told(0, 0, 0), 1);
    }

    @Edges.Edge(promise = 26, says = "TOLD is nothing then: how often there was.")
    static void forgetNothingAndAll() {
        SermonPanes x = Edges.with(0, 5);
        due("nothing", x.forget(), 0);
        for (int i = 0; i < 8; i++) {
            x.told(0, 0, 77);
        }
        due("no set", x.preached(NONE), 0);
        due("all", x.forget(), 8);
        due("TOLD", x.count(4), 0);
        due("again", x.forget(), 0);
        due("all sets", x.preached(NONE), 2);
    }

    @Edges.Edge(promise = 27, says = "PREACHED: how many sets (i NONE), the i-th, as bits. NONE.")
    static void setsOfNoSuchPlace() {
        SermonPanes none = new SermonPanes();
        due("without WORDS", none.preached(NONE), 1);
        due("the empty set", none.preached(0), 0);
        due("no second", none.preached(1), NONE);
        SermonPanes x = Edges.with(0, 1, 0, 2, 0, 3, 0, 4, 0, 5, 0, 6, 0, 7, 0, 8);
        due("256, nothing being TOLD", x.preached(NONE), 256);
        due("the first", x.preached(0), 0);
        due("the last", x.preached(255), 255);
        due("behind the last", x.preached(256), NONE);
        due("i -2", x.preached(-2), NONE);
        for (int far : Edges.FAR) {
            due("i " + far, x.preached(far), NONE);
        }
        x.told(0, 1, 1);
        due("no set", x.preached(NONE), 0);
        due("no first", x.preached(0), NONE);
    }

    @Edges.Edge(promise = 27, says = "sets of WORDS, each once, BARRED ones too")
    static void setsOfBarredWords() {
        SermonPanes x = Edges.add(Edges.under("bars if word = 0"), 0, 3, 0, 4);
        x.told(0, 0, 3);
        due("a BARRED one", x.preached(NONE), 1);
        due("a BARRED one", x.preached(0), 1);
        x.forget();
        x.told(0, 0, 6);
        due("not one twice", x.preached(NONE), 0);
        x.forget();
        x.told(0, 0, 7);
        due("both", x.preached(0), 3);
    }

    @Edges.Edge(promise = 27, says = "by which each PANE would have got of the HUE just as much as is TOLD, for all TOLD")
    static void setsForAllTold() {
        SermonPanes x = Edges.add(Edges.under("stains 20"), 0, 1, 0, 1, 0, 1, 0, 1, 0, 1, 1, 1);
        x.told(15, 0, 99);
        due("100 is not 99", x.preached(NONE), 0);
        x.forget();
        x.told(15, 0, 80);
        due("four of five, with and without a sixth", x.preached(NONE), 10);
        x.told(15, 1, 0);
        due("without the sixth", x.preached(NONE), 5);
        x.told(14, 1, 20);
        due("both can't be", x.preached(NONE), 0);
        SermonPanes y = Edges.with(0, 5, 0, 4, 0, 3, 0, 2, 0, 1, 0, 6, 0, 7, 0, 8);
        y.told(10, 0, 4);
        // Four AWAY the eight WORDS STAIN by 1, 0, 0, 0, 0, 2, 3, 4.
        due("PANE 10: 4, and 1 with 3, each with any of four", y.preached(NONE), 32);
        due("the lowest", y.preached(0), 1 + 64);
        y.told(15, 0, 2);
        due("PANE 15: 2, by the last alone", y.preached(NONE), 16);
        due("the lowest", y.preached(0), 128);
        x.forget();
        Edges.row(x, 15, 50, 0, 0);
        x.told(15, 0, 0);
        due("what it has does not count", x.preached(0), 0);
        due("what it has does not count", x.preached(NONE), 2);
    }

    @Edges.Edge(promise = 28, says = "To LOOK at: the PANE (what 0), how many sets are left at most (1). NONE (no sets).")
    static void lookWithoutSets() {
        SermonPanes x = Edges.with(0, 5);
        due("look(-1)", x.look(-1), NONE);
        due("look(2)", x.look(2), NONE);
        for (int far : Edges.FAR) {
            due("look(" + far + ")", x.look(far), NONE);
        }
        due("look(0)", x.look(0), 0);
        due("look(1)", x.look(1), 1);
        x.told(0, 0, 9);
        due("look(0), no sets", x.look(0), NONE);
        due("look(1), no sets", x.look(1), NONE);
        SermonPanes none = new SermonPanes();
        due("the empty set alone", none.look(0), 0);
        due("the empty set alone", none.look(1), 1);
    }

    @Edges.Edge(promise = 28, says = "the most that give it alike much of all HUES together are as few as can be; the lowest")
    static void lookAtTheLowest() {
        SermonPanes x = Edges.add(Edges.under("stains 0"), 0, 1, 0, 1, 0, 1, 0, 1, 0, 1, 0, 1, 0, 1, 0, 1);
        due("all alike, the lowest", x.look(0), 0);
        due("all alike, all left", x.look(1), 256);
        SermonPanes y = Edges.add(Edges.under("stains 0;stains 1 + word if row = 3 and column > 1"), 0, 1, 1, 1);
        due("the lower of two", y.look(0), 14);
        due("1, 2, 3 by PANE 14", y.look(1), 1);
        // 20 of each of eight WORDS: 160 together, 70 sets of four.
        SermonPanes z = Edges.add(Edges.under("stains 20"), 0, 1, 1, 1, 2, 1, 0, 1, 1, 1, 2, 1, 0, 1, 1, 1);
        due("alike of all HUES together", z.look(1), 70);
        due("the lowest", z.look(0), 0);
    }

    @Edges.Edge(promise = 29, says = "SEATED: what light DOES to all together (what 0), the SEAT of LISTENER l (1 + l). NOTHING.")
    static void seatedOfNoSuch() {
        SermonPanes none = new SermonPanes();
        due("without LISTENERS", none.seated(0), 0);
        due("of the first, without LISTENERS", none.seated(1), NOTHING);
        SermonPanes x = Edges.seating(new SermonPanes(), 7, 1, 6, 1, 5, 1, 4, 1, 3, 1, 2, 1);
        due("seated(0)", x.seated(0), 0);
        for (int i = 0; i < 6; i++) {
            due("the first as a row", x.seated(1 + i), i);
        }
        due("seated(7)", x.seated(7), NOTHING);
        due("seated(-1)", x.seated(-1), NOTHING);
        for (int far : Edges.FAR) {
            due("seated(" + far + ")", x.seated(far), NOTHING);
        }
        due("no one went", x.has(0, 0), 7);
    }

    @Edges.Edge(promise = 29, says = "SEATS for all LISTENERS, unlike ones, on which light DOES the most to all together; the first as a row.")
    static void seatedOnUnlikeSeats() {
        SermonPanes x = Edges.seating(Edges.under("does 0 - 9"), 0, 50, 1, 50, 2, 50, 3, 50, 4, 50, 5, 50);
        due("-54 at the least", x.seated(0), -54);
        SermonPanes y = Edges.seating(Edges.under("does 9"), 0, 50, 1, 50, 2, 50, 3, 50, 4, 50, 5, 50);
        due("54 at the most", y.seated(0), 54);
        SermonPanes z = Edges.seating(Edges.under("does blue"), 0, 50, 1, 50);
        Edges.row(z, 11, 0, 9, 0, 1, 0, 4, 0);
        due("not both on SEAT 7", z.seated(0), 13);
        due("the first as a row", z.seated(1), 1);
        due("the first as a row", z.seated(2), 7);
        SermonPanes u = Edges.seating(Edges.under("does blue"), 7, 50);
        Edges.row(u, 4, 0, 9, 0);
        due("on SEAT 0 alone", u.seated(0), 9);
        due("on SEAT 0 alone", u.seated(1), 0);
        SermonPanes w = Edges.seating(Edges.under("does blue - 5"), 0, 50);
        due("-5 on each, the lowest SEAT", w.seated(1), 0);
        due("-5", w.seated(0), -5);
        // A SPIRIT at its end is done to all the same.
        SermonPanes v = Edges.seating(Edges.under("does 9"), 0, 99);
        due("9 to a SPIRIT of 99", v.seated(0), 9);
    }

    @Edges.Edge(promise = 30, says = "CLEARED. NONE.")
    static void clearedOfNoSuchSeat() {
        SermonPanes x = new SermonPanes();
        due("cleared(-1)", x.cleared(-1), NONE);
        due("cleared(8)", x.cleared(8), NONE);
        for (int far : Edges.FAR) {
            due("cleared(" + far + ")", x.cleared(far), NONE);
        }
        due("cleared(0)", x.cleared(0), 0);
        due("cleared(7)", x.cleared(7), 0);
    }

    @Edges.Edge(promise = 30, says = "the fewest SCRAPINGS by which none of the PANES whose light it has now is BLACK (\"blacks\" asked as now)")
    static void clearedJustBlack() {
        SermonPanes x = new SermonPanes();
        Edges.row(x, 0, 59, 0, 0, 1, 60, 0, 0, 2, 20, 20, 21, 6, 60, 0, 0, 3, 99, 99, 99, 7, 99, 99, 99);
        due("59", x.cleared(0), 0);
        due("60", x.cleared(1), 1);
        due("61 and 60", x.cleared(2), 3);
        due("297 twice", x.cleared(3), 476);
        x.terms(0, 1);
        due("SEAT 3 at HOUR 1 is at COLUMN 0", x.cleared(3), 0);
        due("SEAT 2 at HOUR 1 is at COLUMN 3", x.cleared(2), 476);
        due("nothing was SCRAPED", x.at(3, 0), 99);
        SermonPanes y = Edges.under("blacks 10 - red");
        Edges.row(y, 0, 7, 0, 0);
        due("from 3 on, as now", y.cleared(0), 5);
    }

    @Edges.Edge(promise = 30, says = "by which none of the PANES whose light it has now is BLACK")
    static void clearedThatCanNotBe() {
        SermonPanes x = Edges.under("blacks column;blacks 1 if row = 2;blacks 0 - 5 if row = 3 and column = 3");
        due("BLACK from 0 on", x.cleared(0), NONE);
        due("BLACK from 1 on, with nothing", x.cleared(1), 0);
        due("one of the two from 0 on", x.cleared(7), NONE);
        Edges.row(x, 1, 99, 99, 99);
        due("297 from 1 on", x.cleared(1), 297);
    }

    @Edges.Edge(promise = 31, says = "APART: how many PANES (what 0), which, as bits (1). NONE (not by all).")
    static void apartNotByAll() {
        SermonPanes x = Edges.with(0, 5, 0, 5);
        due("two alike", x.apart(0), NONE);
        due("two alike", x.apart(1), NONE);
        SermonPanes y = Edges.with(0, 5, 1, 5);
        due("by HUE", y.apart(0), 1);
        due("by HUE", y.apart(1), 1);
        due("apart(-1)", y.apart(-1), NONE);
        due("apart(2)", y.apart(2), NONE);
        for (int far : Edges.FAR) {
            due("apart(" + far + ")", y.apart(far), NONE);
        }
    }

    @Edges.Edge(promise = 31, says = "APART: the fewest PANES by which each two WORDS STAIN one of them unlike")
    static void apartOfFewWords() {
        SermonPanes x = new SermonPanes();
        due("no WORDS", x.apart(0), 0);
        due("no WORDS", x.apart(1), 0);
        Edges.add(x, 0, 5);
        due("one WORD", x.apart(0), 0);
        due("one WORD", x.apart(1), 0);
        SermonPanes barred = Edges.add(Edges.under("bars"), 0, 5, 0, 6);
        due("BARRED ones too", barred.apart(0), 1);
    }

    @Edges.Edge(promise = 31, says = "(in HUE or how much; 0 of any HUE alike); the lowest as bits")
    static void apartByTheLowest() {
        SermonPanes x = Edges.add(Edges.under("stains 0"), 0, 5, 1, 5);
        due("0 of any HUE", x.apart(0), NONE);
        SermonPanes y = Edges.add(Edges.under("stains 0;stains 1 if row = 3 and column = 3"), 0, 5, 1, 5);
        due("the last PANE alone", y.apart(1), 1 << 15);
        SermonPanes u = Edges.add(Edges.under("stains 0;stains 1 if row + column = 0"), 0, 5, 1, 5);
        due("the first PANE alone", u.apart(1), 1);
        Edges.law(u, "stains 0;stains 1 if row = 2");
        u.force(1);
        due("by another LAW", u.apart(1), 1 << 8);
        // WORD w STAINS PANE w alone: of eight WORDS seven PANES tell all.
        SermonPanes z = Edges.add(Edges.under("stains 0;stains 1 if row * 4 + column = word"),
                0, 1, 0, 1, 0, 1, 0, 1, 0, 1, 0, 1, 0, 1, 0, 1);
        for (int i = 0; i < 4; i++) {
            due("seven, time and again", z.apart(0), 7);
        }
        due("the lowest seven", z.apart(1), 127);
        // Eight WORDS of which only PANES 0 and 3, or 1 and 2, tell all: as bits 9 and 6.
        SermonPanes w = Edges.add(Edges.under("stains 0;stains word + 1 if row = 0;"
                + "stains 1 if row = 0 and word = 1 and column < 2;"
                + "stains 3 if row = 0 and word = 3 and column % 2 = 0;"
                + "stains 5 if row = 0 and word = 5 and column % 2 = 1;"
                + "stains 7 if row = 0 and word = 7 and column > 1"), 0, 1, 0, 1, 0, 1, 0, 1, 0, 1, 0, 1, 0, 1, 0, 1);
        due("two", w.apart(0), 2);
        due("1 and 2, though 0 comes first", w.apart(1), 6);
    }

    @Edges.Edge(promise = 32, says = "PLACE for a PANE: which (what 0), how much all STAIN it there (1). NONE.")
    static void placeOfNoSuch() {
        SermonPanes x = Edges.with(0, 5);
        due("place(-1, 0)", x.place(-1, 0), NONE);
        due("place(16, 0)", x.place(16, 0), NONE);
        due("place(0, -1)", x.place(0, -1), NONE);
        due("place(0, 2)", x.place(0, 2), NONE);
        for (int far : Edges.FAR) {
            due("place(" + far + ", 0)", x.place(far, 0), NONE);
            due("place(0, " + far + ")", x.place(0, far), NONE);
        }
        due("place(15, 0)", x.place(15, 0), 15);
        due("place(15, 1)", x.place(15, 1), 5);
        due("the PULPIT stays", x.count(3), 0);
    }

    @Edges.Edge(promise = 32, says = "at which all WORDS that are not BARRED STAIN it most together; the lowest")
    static void placeOfTheLowest() {
        SermonPanes none = new SermonPanes();
        due("without WORDS", none.place(15, 0), 0);
        due("without WORDS", none.place(15, 1), 0);
        SermonPanes x = Edges.add(Edges.under("bars"), 0, 9);
        due("all BARRED", x.place(15, 0), 0);
        due("all BARRED", x.place(15, 1), 0);
        SermonPanes y = Edges.add(Edges.under("stains 20"), 0, 1, 0, 1, 0, 1, 0, 1, 1, 1, 1, 1, 2, 1, 2, 1);
        due("all alike, the lowest", y.place(9, 0), 0);
        due("160, the most", y.place(9, 1), 160);
        SermonPanes z = Edges.add(Edges.under("stains away"), 0, 1);
        due("the furthest from 0", z.place(0, 0), 15);
        due("the furthest from 3", z.place(3, 0), 12);
        due("6", z.place(3, 1), 6);
        due("6", z.place(0, 1), 6);
        z.walk(9);
        due("wherever it is now", z.place(0, 1), 6);
    }

    @Edges.Edge(promise = 33, says = "A WAY of the PULPIT: how many BLACK ones (i NONE), the i-th place that is come to. NONE.")
    static void wayOfNoSuch() {
        SermonPanes x = new SermonPanes();
        due("way(-1, NONE)", x.way(-1, NONE), NONE);
        due("way(16, NONE)", x.way(16, NONE), NONE);
        due("to where it is", x.way(0, NONE), NONE);
        due("to where it is, the first", x.way(0, 0), NONE);
        due("to 15", x.way(15, NONE), 0);
        due("the last", x.way(15, 5), 15);
        due("behind the last", x.way(15, 6), NONE);
        due("i -2", x.way(15, -2), NONE);
        due("next to it", x.way(1, 0), 1);
        due("next to it, behind", x.way(1, 1), NONE);
        for (int far : Edges.FAR) {
            due("way(" + far + ", NONE)", x.way(far, NONE), NONE);
            due("way(15, " + far + ")", x.way(15, far), NONE);
        }
        due("the PULPIT stays", x.count(3), 0);
    }

    @Edges.Edge(promise = 33, says = "over places the PANES of which are BLACK as seldom as can be among these (both ends aside); the first as a row of places")
    static void wayBetweenBothEnds() {
        SermonPanes x = Edges.under("blacks 0");
        due("all BLACK, five between", x.way(15, NONE), 5);
        due("all BLACK, none between", x.way(4, NONE), 0);
        int[] first = {1, 2, 3, 7, 11, 15};
        for (int i = 0; i < 6; i++) {
            due("the first as a row", x.way(15, i), first[i]);
        }
        SermonPanes y = new SermonPanes();
        Edges.row(y, 0, 60, 0, 0, 5, 60, 0, 0, 1, 60, 0, 0);
        due("both ends BLACK", y.way(5, NONE), 0);
        due("around 1", y.way(5, 0), 4);
        due("then there", y.way(5, 1), 5);
        y.walk(1);
        due("from 1 to 4, not over 0", y.way(4, NONE), 1);
        due("the first as a row, one being as BLACK", y.way(4, 0), 0);
        Edges.row(y, 5, 0, 0, 0);
        due("from 1 to 4, not over 0", y.way(4, NONE), 0);
        due("but over 5", y.way(4, 0), 5);
        y.walk(0);
        // A way around would be longer: only the fewest steps count.
        due("straight over it", y.way(2, NONE), 1);
        due("straight over it", y.way(2, 0), 1);
        SermonPanes z = new SermonPanes();
        z.walk(15);
        int[] back = {11, 7, 3, 2, 1, 0};
        for (int i = 0; i < 6; i++) {
            due("back, the first as a row", z.way(0, i), back[i]);
        }
        z.walk(3);
        int[] across = {2, 1, 0, 4, 8, 12};
        for (int i = 0; i < 6; i++) {
            due("across, the first as a row", z.way(12, i), across[i]);
        }
        // The end of a ROW is four steps from the start of the next, not one.
        z.walk(4);
        due("from 4 to 3", z.way(3, 3), 3);
        due("from 4 to 3, behind", z.way(3, 4), NONE);
    }

    @Edges.Edge(promise = 34, says = "LATER in n HOURS 0 .. 60. NONE.")
    static void laterOfNoSuch() {
        SermonPanes x = new SermonPanes();
        due("without LISTENERS", x.later(0, 0), NONE);
        Edges.seating(Edges.add(x, 0, 1), 0, 50);
        due("later(-1, 0)", x.later(-1, 0), NONE);
        due("later(1, 0)", x.later(1, 0), NONE);
        due("later(0, -1)", x.later(0, -1), NONE);
        due("later(0, 61)", x.later(0, 61), NONE);
        for (int far : Edges.FAR) {
            due("later(" + far + ", 0)", x.later(far, 0), NONE);
            due("later(0, " + far + ")", x.later(0, far), NONE);
        }
        due("later(0, 0)", x.later(0, 0), 50);
        SermonPanes y = Edges.seating(Edges.under("does 1"), 0, 3);
        due("later(0, 0)", y.later(0, 0), 3);
        due("later(0, 1)", y.later(0, 1), 4);
        due("later(0, 60)", y.later(0, 60), 63);
        due("the SPIRIT stays", y.has(0, 1), 3);
        due("the HOUR stays", y.count(14), 0);
    }

    @Edges.Edge(promise = 34, says = "what SPIRIT a LISTENER would have in n HOURS (beyond HOUR 999, too), nothing else being done")
    static void laterBeyond999() {
        SermonPanes x = Edges.seating(Edges.under("does hour - 998"), 0, 10);
        x.terms(0, 999);
        due("1", x.later(0, 1), 11);
        due("1, 2", x.later(0, 2), 13);
        due("1, 2, 3", x.later(0, 3), 16);
        x.terms(0, 998);
        due("0, 1, 2", x.later(0, 3), 13);
        // SEAT 1 at 999, 1000, 1001: COLUMNS 0, 1, 2.
        SermonPanes y = Edges.seating(Edges.under("does blue"), 1, 0);
        Edges.row(y, 0, 0, 1, 0, 1, 0, 2, 0, 2, 0, 4, 0, 3, 0, 8, 0);
        y.terms(0, 999);
        due("1, 2, 4, 8, 1", y.later(0, 5), 16);
    }

    @Edges.Edge(promise = 34, says = "SPIRITS (0 .. 99)")
    static void laterWithin0And99() {
        SermonPanes x = Edges.seating(Edges.under("does 9"), 0, 0);
        due("90", x.later(0, 10), 90);
        due("99", x.later(0, 11), 99);
        due("99 still", x.later(0, 60), 99);
        SermonPanes y = Edges.seating(Edges.under("does 0 - 9"), 0, 99);
        due("0", y.later(0, 11), 0);
        due("0 still", y.later(0, 60), 0);
        // Cut each HOUR: from 99 it goes down at once.
        SermonPanes z = Edges.seating(Edges.under("does 9;does 0 - 9 if hour > 2"), 0, 98);
        due("99, 99, 99, 90", z.later(0, 4), 90);
    }

    @Edges.Edge(promise = 35, says = "BLACKENED. NONE (no such LAW).")
    static void blackenedByNoSuchLaw() {
        SermonPanes x = new SermonPanes();
        due("blackened(0) without LAWS", x.blackened(0), NONE);
        Edges.law(x, "blacks 0");
        due("blackened(0)", x.blackened(0), 16);
        due("blackened(1)", x.blackened(1), NONE);
        due("blackened(-2)", x.blackened(-2), NONE);
        for (int far : Edges.FAR) {
            due("blackened(" + far + ")", x.blackened(far), NONE);
        }
        due("none in FORCE still", x.count(13), NONE);
        due("no call that is REFUSED", x.count(9), 0);
    }

    @Edges.Edge(promise = 35, says = "how many PANES would be BLACK by a LAW in place of that in FORCE (NONE: none)")
    static void blackenedByNone() {
        SermonPanes x = Edges.under("blacks 0");
        Edges.law(x, "blacks 300");
        Edges.row(x, 4, 60, 0, 0, 5, 59, 0, 0);
        due("by none", x.blackened(NONE), 1);
        due("by that in FORCE", x.blackened(0), 16);
        due("by another", x.blackened(1), 0);
        due("in FORCE still", x.count(13), 0);
        due("BLACK ones still", x.count(2), 16);
    }

    @Edges.Edge(promise = 36, says = "FEW, k 1 .. 20, n 0 .. 99. NONE.")
    static void fewOfNoSuch() {
        SermonPanes x = new SermonPanes();
        due("few(0, 5)", x.few(0, 5), NONE);
        due("few(21, 5)", x.few(21, 5), NONE);
        due("few(1, -1)", x.few(1, -1), NONE);
        due("few(1, 100)", x.few(1, 100), NONE);
        for (int far : Edges.FAR) {
            due("few(" + far + ", 1)", x.few(far, 1), NONE);
            due("few(1, " + far + ")", x.few(1, far), NONE);
        }
        due("few(1, 0)", x.few(1, 0), SURE);
        due("few(20, 0)", x.few(20, 0), SURE);
        due("few(1, 1)", x.few(1, 1), 700000000000L);
        due("few(20, 19)", x.few(20, 19), fewer(20, 19, 3));
        due("few(20, 20)", x.few(20, 20), fewer(20, 20, 3));
        due("few(20, 99)", x.few(20, 99), fewer(20, 99, 3));
        due("few(1, 99)", x.few(1, 99), fewer(1, 99, 3));
    }

    /** The parts by how many came, all of them kept and each visitor's worked out anew. */
    private static long fewer(int k, int n, int comes) {
        long[] parts = {SURE};
        for (int visitor = 0; visitor < n; visitor++) {
            long[] next = new long[parts.length + 1];
            for (int came = 0; came < parts.length; came++) {
                next[came] += parts[came] * (10 - comes) / 10;
                next[came + 1] += parts[came] * comes / 10;
            }
            parts = next;
        }
        long all = 0;
        for (int came = 0; came < Math.min(k, parts.length); came++) {
            all += parts[came];
        }
        return all;
    }

    @Edges.Edge(promise = 36, says = "each part times the rest by ten and times COMES by ten (one more), both cut; of those below k all together")
    static void fewOfNoneAndOfAll() {
        SermonPanes x = new SermonPanes();
        x.terms(1, 0);
        due("none comes", x.few(1, 99), SURE);
        x.terms(1, 10);
        due("all come, 1 of 1", x.few(1, 1), 0);
        due("all come, 2 of 1", x.few(2, 1), SURE);
        due("all come, 20 of 20", x.few(20, 20), 0);
        due("all come, 20 of 19", x.few(20, 19), SURE);
        for (int comes = 1; comes < 10; comes += 4) {
            x.terms(1, comes);
            for (int n = 0; n < 100; n += 11) {
                due("few(7, " + n + ") of " + comes, x.few(7, n), fewer(7, n, comes));
                due("few(20, " + n + ") of " + comes, x.few(20, n), fewer(20, n, comes));
            }
        }
    }

    public static void main(String[] args) throws Exception {
        Edges.run(EdgesOnPaperTest.class, 24, 36);
    }
}
