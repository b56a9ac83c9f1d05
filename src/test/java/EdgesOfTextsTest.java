/** Boundary cases of promises 13 to 17: LAWS and ORDERS, how they are read and what they tell. */
public final class EdgesOfTextsTest {
    private static final int NONE = Edges.NONE;

    private static void due(String what, long got, long want) {
        Edges.due(what, got, want);
    }

    /** NONE: the TEXT is read as a LAW without a FAULT. */
    private static void law(String text, int fault) {
        SermonPanes x = new SermonPanes();
        Edges.tape(x, text);
        if (fault == NONE) {
            Edges.taken(x, "law " + text, x::law, 0);
        } else {
            Edges.refused(x, -6, "law " + text, x::law);
        }
        due("FAULT of " + text, x.fault(), fault);
        due("bytes behind " + text, x.count(7), 0);
        due("LAWS behind " + text, x.count(5), fault == NONE ? 1 : 0);
    }

    /** NONE: the TEXT is read as ORDERS without a FAULT, and none is run. */
    private static void orders(String text, int fault) {
        SermonPanes x = new SermonPanes();
        Edges.tape(x, text);
        if (fault == NONE) {
            Edges.taken(x, "orders " + text, x::orders, 0);
        } else {
            Edges.refused(x, -6, "orders " + text, x::orders);
        }
        due("FAULT of " + text, x.fault(), fault);
        due("bytes behind " + text, x.count(7), 0);
    }

    /** What "stains" with a SUM tells; NONE, if it does not HOLD. */
    private static int stained(String sum) {
        SermonPanes x = Edges.add(Edges.under("stains " + sum), 0, 9);
        int told = x.of(0, 3);
        SermonPanes y = Edges.add(Edges.under("stains " + sum), 0, 8);
        // FORCE less AWAY is another for each of the two WORDS.
        return told == 9 && y.of(0, 3) == 8 ? NONE : told;
    }

    private static int barred(String test) {
        return Edges.add(Edges.under("bars if " + test), 0, 9).of(0, 2);
    }

    @Edges.Edge(promise = 13, says = "LAWS, 6 at most")
    static void sixLaws() {
        SermonPanes x = new SermonPanes();
        for (int i = 0; i < 6; i++) {
            due("LAW " + i, Edges.law(x, "stains " + i), i);
        }
        due("LAWS", x.count(5), 6);
        Edges.tape(x, "stains 6");
        Edges.refused(x, -5, "the seventh", x::law);
        Edges.add(x, 0, 9);
        x.force(5);
        due("the last", x.of(0, 3), 5);
        x.force(0);
        due("the first", x.of(0, 3), 0);
    }

    @Edges.Edge(promise = 13, says = "-5 (ahead of reading it; the TAPE is empty then, too)")
    static void lawWithoutRoomIsNotRead() {
        SermonPanes x = new SermonPanes();
        for (int i = 0; i < 6; i++) {
            Edges.law(x, "bars");
        }
        Edges.tape(x, "bars bars");
        Edges.refused(x, -5, "one with a FAULT", x::law);
        due("bytes", x.count(7), 0);
        due("FAULT", x.fault(), NONE);
        Edges.refused(x, -5, "one of no bytes", x::law);
    }

    @Edges.Edge(promise = 13, says = "-6 (blanks alone: FAULT at the end)")
    static void lawOfBlanks() {
        law("", 0);
        law(" ", 1);
        law("       ", 7);
        law(" ".repeat(400), 400);
    }

    @Edges.Edge(promise = 13, says = "The TAPE, which is empty then, becomes a LAW")
    static void emptyBehindALaw() {
        SermonPanes x = new SermonPanes();
        Edges.law(x, "bars");
        due("bytes", x.count(7), 0);
        due("again", x.law(), -6);
        due("FAULT", x.fault(), 0);
        Edges.law(x, "  bars");
        due("none", x.law(), -6);
        due("FAULT of none", x.fault(), 0);
        // What was there before is not read once more behind a shorter TEXT.
        Edges.law(x, "bars if 1 = 1");
        due("shorter", Edges.law(x, "bars if"), -6);
        due("FAULT", x.fault(), 7);
    }

    @Edges.Edge(promise = 13, says = "TOKENS: longest rows of letters a .. z, of digits, single other bytes, any blanks (32) between.")
    static void tokens() {
        law("stains1if1=1", NONE);
        law("  stains   1   if  1   =  1  ", NONE);
        law("stains 1if 1=1;bars", NONE);
        law("barsif 1=1", 0);
        law("bar s", 0);
        law("stains 1 0", 9);
        law("bars\u0000", 4);
        law("bars\t", 4);
        law("bars\n", 4);
        law("bars\u00ff", 4);
        law("Bars", 0);
        law("barS", 0);
        law("bars`", 4);
        law("bars{", 4);
        law("bars if 1/1=1", NONE);
        law("bars if 1:1=1", 9);
        law("stains a", 7);
        law("stains z", 7);
        law("stains word1", 11);
        law("barsz", 0);
        law("abars", 0);
    }

    @Edges.Edge(promise = 13, says = "12 at most (FAULT at the 13th's first TOKEN)")
    static void twelveClauses() {
        String eleven = "bars;".repeat(11);
        law(eleven + "bars", NONE);
        law(eleven + "bars;bars", 60);
        law(eleven + "bars;   bars", 63);
        law(eleven + "bars;", 60);
        law(eleven + "bars; ", 61);
        law(eleven + "bars;;", 60);
        law(eleven + "bars if 1 = 2 ; stains 7 if", 71);
    }

    @Edges.Edge(promise = 13, says = "CLAUSE {\";\" CLAUSE}")
    static void clausesBetweenSemicolons() {
        law(";", 0);
        law("bars;", 5);
        law(";bars", 0);
        law("bars;;bars", 5);
        law("bars bars", 5);
    }

    @Edges.Edge(promise = 13, says = "PART: NUMBER (to 1,000)")
    static void numbersToAThousand() {
        law("stains 0", NONE);
        law("stains 999", NONE);
        law("stains 1000", NONE);
        law("stains 1001", 7);
        law("stains 00000000000000000001000", NONE);
        law("stains 2147483648", 7);
        law("stains 4294967297", 7);
        law("stains 18446744073709551617", 7);
        law("stains " + "9".repeat(393), 7);
        law("stains " + "0".repeat(393), NONE);
        due("1000", stained("1000 - 990"), 10);
        due("001", stained("007"), 7);
    }

    @Edges.Edge(promise = 13, says = "50 PARTS that are NUMBERS and words (FAULT at the 51st)")
    static void fiftyParts() {
        law("does 1" + "+1".repeat(49), NONE);
        law("does 1" + "+1".repeat(50), 105);
        law("does 1" + "+1".repeat(49) + "+hour", 105);
        law("does 1" + "+1".repeat(49) + "+[1]", 106);
        law("does 1" + "+1".repeat(49) + "+", 105);
        law("does 1" + "+1".repeat(48) + " if hour=1", 111);
        law("does 1" + "+1".repeat(47) + " if hour=1", NONE);
        // Over all CLAUSES together.
        law("does 1" + "+1".repeat(48) + ";does 2;bars", NONE);
        law("does 1" + "+1".repeat(48) + ";does 2;does 3", 115);
        due("what 50 tell", stained("1" + "+1".repeat(18) + "+0".repeat(31)), 19);
    }

    @Edges.Edge(promise = 13, says = "8 brackets of both kinds within one another (FAULT at the 9th) at most")
    static void eightBrackets() {
        law("does " + "[".repeat(8) + "1" + "]".repeat(8), NONE);
        law("does " + "[".repeat(9) + "1" + "]".repeat(9), 13);
        law("bars if " + "(".repeat(8) + "1=1" + ")".repeat(8), NONE);
        law("bars if " + "(".repeat(9) + "1=1" + ")".repeat(9), 16);
        law("bars if " + "(".repeat(4) + "[".repeat(4) + "1" + "]".repeat(4) + "=1" + ")".repeat(4), NONE);
        law("bars if " + "(".repeat(4) + "[".repeat(5) + "1", 16);
        law("bars if (((((((1=1)=1", 19);
        // Side by side they are not within one another.
        law("does " + "[".repeat(8) + "1" + "]".repeat(8) + "+" + "[".repeat(8) + "1" + "]".repeat(8), NONE);
        law("does [1]+[1]+[1]+[1]+[1]+[1]+[1]+[1]+[1]", NONE);
        law("bars if ((((1=1)))) and ((((1=1)))) and not((((((((1=1))))))))", NONE);
    }

    @Edges.Edge(promise = 13, says = "CLAUSE: ((\"stains\" | \"does\" | \"blacks\") SUM | \"bars\") [\"if\" TEST]")
    static void clausesOfLaws() {
        law("stains", 6);
        law("does", 4);
        law("blacks", 6);
        law("bars", NONE);
        law("bars 1", 5);
        law("stains if 1 = 1", 7);
        law("stains 1 if", 11);
        law("stains 1 if 1 = 1 if 1 = 1", 18);
        law("stains 1 times 2", 9);
        law("preach 1", 0);
        law("pass", 0);
        law("1", 0);
        law("noes 1", 0);
        law("flacks 1", 0);
        law("wars", 0);
    }

    @Edges.Edge(promise = 13, says = "\"spirit\" | \"hour\" | \"mood\".")
    static void wordsOfLaws() {
        law("does word+hue+force+away+row+column+red+blue+green+spirit+hour+mood", NONE);
        String[] others = {"done", "latest", "pulpit", "black", "stains", "if", "and", "hues", "moo", "wor",
            "xord", "xue", "xood", "xpirit", "hux"};
        for (String other : others) {
            law("does " + other, 5);
        }
        law("does red 1", 9);
        law("does spirit 0", 12);
    }

    @Edges.Edge(promise = 13, says = "Beyond 1,000,000,000 either way")
    static void brokenBeyondAMilliard() {
        String milliard = "1000 * 1000 * 1000";
        due("1,000,000,000", barred(milliard + " > 0"), 1);
        due("1,000,000,001", barred(milliard + " + 1 > 0"), 0);
        due("-1,000,000,000", barred("0 - " + milliard + " < 0"), 1);
        due("-1,000,000,001", barred("0 - " + milliard + " - 1 < 0"), 0);
        due("beyond and back", barred(milliard + " + 1 - 1 > 0"), 0);
        due("by 1,001", barred("1000 * 1000 * [1000 + 1] > 0"), 0);
        due("10 to the 18th", barred("[" + milliard + "] * [" + milliard + "] > 0"), 0);
        due("10 to the 30th, by what a long has room for",
                barred(milliard + " * 1000 * 1000 * 1000 * 1000 * 1000 * 1000 * 1000 > 0"), 0);
        // 65536 * 65536 would be 0 where an int wraps around.
        due("no wrap-around of an int", barred("[256 * 256] * [256 * 256] = 0"), 0);
        due("-10 to the 18th", barred("[0 - " + milliard + "] * [" + milliard + "] < 0"), 0);
        due("of a SUM that tells", stained("1000 * 1000 * 1000 - 1000 * 1000 * 1000 + 3"), 3);
        due("of a SUM that is BROKEN", stained("1000 * 1000 * 1000 + 1 - 1000 * 1000 * 1000 + 3"), NONE);
        due("not of a BROKEN one", barred("not 1000 * 1000 * 1000 + 1 > 0"), 0);
    }

    @Edges.Edge(promise = 13, says = "or divided by 0 (/ cut towards 0, % what is left then)")
    static void dividedByNothing() {
        due("1 / 0", stained("1 / 0"), NONE);
        due("0 / 0", stained("0 / 0"), NONE);
        due("1 % 0", stained("1 % 0"), NONE);
        due("0 * [1 / 0]", stained("0 * [1 / 0]"), NONE);
        due("0 / 1", stained("0 / 1"), 0);
        due("7 / 2", stained("7 / 2"), 3);
        due("-7 / 2", stained("[0 - 7] / 2 + 10"), 7);
        due("7 / -2", stained("7 / [0 - 2] + 10"), 7);
        due("-7 / -2", stained("[0 - 7] / [0 - 2]"), 3);
        due("7 % 3", stained("7 % 3"), 1);
        due("-7 % 3", stained("[0 - 7] % 3 + 10"), 9);
        due("7 % -3", stained("7 % [0 - 3] + 10"), 11);
        due("-7 % -3", stained("[0 - 7] % [0 - 3] + 10"), 9);
        due("6 % 3", stained("6 % 3 + 4"), 4);
        due("1 / 2", stained("1 / 2"), 0);
        due("-1 / 2", stained("[0 - 1] / 2 + 5"), 5);
    }

    @Edges.Edge(promise = 13, says = "(\"or\", \"and\" ask what stands behind only if it can still matter)")
    static void behindOrAndAnd() {
        due("so or BROKEN", barred("1 = 1 or 1 / 0 = 1"), 1);
        due("not so or BROKEN", barred("1 = 2 or 1 / 0 = 1"), 0);
        due("not so and BROKEN, not", barred("not (1 = 2 and 1 / 0 = 1)"), 1);
        due("so and BROKEN, not", barred("not (1 = 1 and 1 / 0 = 1)"), 0);
        due("BROKEN or so", barred("1 / 0 = 1 or 1 = 1"), 0);
        due("BROKEN and not so, not", barred("not (1 / 0 = 1 and 1 = 2)"), 0);
        due("so or BROKEN or BROKEN", barred("1 = 1 or 1 / 0 = 1 or 1 / 0 = 1"), 1);
        due("so or BROKEN and BROKEN", barred("1 = 1 or 1 / 0 = 1 and 1 / 0 = 1"), 1);
        due("not so and BROKEN or so", barred("1 = 2 and 1 / 0 = 1 or 1 = 1"), 1);
        due("not so and BROKEN or not so", barred("1 = 2 and 1 / 0 = 1 or 1 = 2"), 0);
        due("(so or BROKEN) and so", barred("(1 = 1 or 1 / 0 = 1) and 1 = 1"), 1);
        due("(so or BROKEN) and BROKEN", barred("(1 = 1 or 1 / 0 = 1) and 1 / 0 = 1"), 0);
        due("so and so and not so or so", barred("1 = 1 and 1 = 1 and 1 = 2 or 1 = 1"), 1);
    }

    @Edges.Edge(promise = 13, says = "PLAIN: \"not\" PLAIN | \"(\" TEST \")\" | SUM (\"<\" | \">\" | \"=\") SUM.")
    static void plainTests() {
        due("1 < 1", barred("1 < 1"), 0);
        due("0 < 1", barred("0 < 1"), 1);
        due("1 > 1", barred("1 > 1"), 0);
        due("1 > 0", barred("1 > 0"), 1);
        due("1 = 1", barred("1 = 1"), 1);
        due("1 = 0", barred("1 = 0"), 0);
        due("not", barred("not 1 = 1"), 0);
        due("not not", barred("not not 1 = 1"), 1);
        due("not (not)", barred("not (not 1 = 1)"), 1);
        due("not (not), and", barred("1 = 1 and not (not 1 = 2 and not 1 = 1)"), 1);
        due("not of not so", barred("not 1 = 2"), 1);
        due("not of the first alone", barred("not 1 = 1 or 1 = 1"), 1);
        law("bars if " + "not ".repeat(97) + "1=1", NONE);
        law("bars if", 7);
        law("bars if not", 11);
        law("bars if 1", 9);
        law("bars if 1 =", 11);
        law("bars if 1 = 1 = 1", 14);
        law("bars if 1 == 1", 11);
        law("bars if ()", 9);
        law("bars if (1)", 10);
        law("bars if (1 = 1", 14);
        law("bars if (1 = 1]", 14);
        law("bars if 1 = 1)", 13);
        law("bars if [1 = 1]", 11);
        law("bars if (1 = 1) = 1", 16);
        law("bars if 1 = 1 or", 16);
        law("bars if 1 = 1 and", 17);
        law("bars if or", 8);
    }

    @Edges.Edge(promise = 13, says = "SUM: TERM {(\"+\" | \"-\") TERM}. TERM: PART {(\"*\" | \"/\" | \"%\") PART}.")
    static void sums() {
        due("from the left, -", stained("10 - 4 - 3"), 3);
        due("from the left, /", stained("16 / 4 / 2"), 2);
        due("* ahead of -", stained("20 - 3 * 4"), 8);
        due("brackets", stained("[20 - 3] * 1 - [4 - 1]"), 14);
        law("stains -1", 7);
        law("stains 1 +", 10);
        law("stains 1 + + 1", 11);
        law("stains 1 *", 10);
        law("stains []", 8);
        law("stains [1", 9);
        law("stains [1)", 9);
        law("stains 1]", 8);
        law("stains (1)", 7);
    }

    @Edges.Edge(promise = 13, says = "\"stains\" is asked of a WORD and a PANE (red, blue, green: what that has; spirit -1)")
    static void stainsAsked() {
        SermonPanes x = Edges.seating(Edges.under("stains spirit + 2 + [word + hue + force] * 0"), 0, 50);
        Edges.add(x, 2, 9);
        due("spirit -1", x.of(0, 3), 1);
        SermonPanes y = Edges.add(Edges.under("stains red + blue + green"), 0, 9);
        Edges.row(y, 15, 1, 2, 4);
        due("what that has", y.of(0, 18), 7);
        due("what another has", y.of(0, 3), 0);
        SermonPanes z = Edges.add(Edges.under("stains row * 5 + column"), 0, 9);
        due("ROW 0, COLUMN 3", z.of(0, 6), 3);
        due("ROW 1, COLUMN 0", z.of(0, 7), 5);
        due("ROW 3, COLUMN 3", z.of(0, 18), 18);
    }

    @Edges.Edge(promise = 13, says = "\"does\" of a LISTENER (red, blue, green: the light of the SEAT; word, hue, force, away, row, column -1)")
    static void doesAsked() {
        String[] words = {"word", "hue", "force", "away", "row", "column"};
        for (String word : words) {
            SermonPanes x = Edges.seating(Edges.add(Edges.under("does " + word + " - 2"), 2, 9), 5, 50);
            due(word + " -1", x.has(0, 2), -3);
        }
        SermonPanes y = Edges.seating(Edges.under("does red - blue + green if spirit = 50"), 5, 50);
        Edges.row(y, 9, 1, 2, 4, 13, 1, 0, 2, 5, 9, 9, 9);
        due("light of both PANES", y.has(0, 2), 6);
    }

    @Edges.Edge(promise = 13, says = "\"blacks\" of a PANE (word, hue, force, spirit -1)")
    static void blacksAsked() {
        String[] words = {"word", "hue", "force", "spirit"};
        for (String word : words) {
            SermonPanes x = Edges.seating(Edges.add(Edges.under("blacks " + word + " + 101"), 2, 9), 5, 50);
            due(word + " -1", x.at(5, 3), 100);
        }
        SermonPanes y = Edges.under("blacks away * 100 + row * 10 + column");
        due("PANE 1", y.at(1, 3), 101);
        y.walk(15);
        due("PANE 14", y.at(14, 3), 132);
    }

    @Edges.Edge(promise = 13, says = "\"bars\" of a WORD (away, row, column, red, blue, green, spirit -1)")
    static void barsAsked() {
        String[] words = {"away", "row", "column", "red", "blue", "green", "spirit"};
        for (String word : words) {
            SermonPanes x = Edges.seating(Edges.add(Edges.under("bars if " + word + " = 0 - 1"), 2, 9), 5, 50);
            due(word + " -1", x.of(0, 2), 1);
        }
        SermonPanes y = Edges.add(Edges.under("bars if word * 100 + hue * 10 + force = 129"), 2, 9, 2, 9);
        due("WORD 0", y.of(0, 2), 0);
        due("WORD 1", y.of(1, 2), 1);
    }

    @Edges.Edge(promise = 13, says = "\"spirit\" | \"hour\" | \"mood\"")
    static void hourAndMoodAsked() {
        SermonPanes x = Edges.under("stains mood + hour;does mood - hour;blacks mood * 10 + hour;bars if mood = 9 and hour = 3");
        Edges.seating(Edges.add(x, 0, 1), 0, 50);
        due("STAINS at first", x.of(0, 3), 0);
        due("BARRED at first", x.of(0, 2), 0);
        x.terms(0, 3);
        x.terms(2, 9);
        due("STAINS", x.of(0, 3), 12);
        due("DOES", x.has(0, 2), 6);
        due("BLACK from", x.at(0, 3), 93);
        due("BARRED", x.of(0, 2), 1);
    }

    @Edges.Edge(promise = 13, says = "A CLAUSE HOLDS, if its \"if\" (if it has one) is so, and neither that nor its SUM is BROKEN.")
    static void clausesThatHold() {
        due("not so", stained("3 if 1 = 2"), NONE);
        due("so", stained("3 if 1 = 1"), 3);
        due("a BROKEN \"if\"", stained("3 if 1 / 0 = 1"), NONE);
        due("a BROKEN SUM", stained("3 / 0 if 1 = 1"), NONE);
        due("a BROKEN SUM, not so", stained("5;stains 3 / 0 if 1 = 2"), 5);
        due("BROKEN ones ahead of it", stained("1 / 0;stains 1 if 1 / 0 = 1;stains 3"), 3);
        due("BROKEN ones ahead of its \"if\"", stained("1 / 0;stains 3 if 1 = 1"), 3);
        due("BARRED by a BROKEN \"if\"", barred("1 % 0 = 0"), 0);
        SermonPanes x = Edges.seating(Edges.under("does 1 / 0;blacks 1 / 0"), 0, 50);
        due("BLACK from, by a BROKEN one", x.at(0, 3), 60);
        Edges.row(x, 0, 0, 20, 0);
        due("light DOES, by a BROKEN one", x.has(0, 2), 2);
    }

    @Edges.Edge(promise = 13, says = "by what the last \"stains\" that HOLDS tells, 0 .. 20 (else the nearest)")
    static void lastThatHolds() {
        due("the last of three", stained("1;stains 2;stains 3"), 3);
        due("the last one BROKEN", stained("1;stains 2;stains 3 / 0"), 2);
        due("the last one not so", stained("1;stains 2;stains 3 if hour = 1"), 2);
        due("others behind it", stained("4;blacks 5;does 6;bars if 1 = 2"), 4);
        due("19", stained("19"), 19);
        due("20", stained("20"), 20);
        due("21", stained("21"), 20);
        due("1,000,000,000", stained("1000 * 1000 * 1000"), 20);
        due("0", stained("0"), 0);
        due("-1", stained("0 - 1"), 0);
        due("-1,000,000,000", stained("0 - 1000 * 1000 * 1000"), 0);
    }

    @Edges.Edge(promise = 13, says = "a WORD is BARRED, if \"bars\" HOLDS.")
    static void barredIfAnyHolds() {
        due("the first of two", Edges.add(Edges.under("bars;bars if 1 = 2"), 0, 1).of(0, 2), 1);
        due("the second of two", Edges.add(Edges.under("bars if 1 = 2;bars"), 0, 1).of(0, 2), 1);
        due("none of two", Edges.add(Edges.under("bars if 1 = 2;bars if 1 / 0 = 1"), 0, 1).of(0, 2), 0);
        due("no \"bars\"", Edges.add(Edges.under("stains 0"), 0, 1).of(0, 2), 0);
    }

    @Edges.Edge(promise = 14, says = "-6 (as for law()).")
    static void ordersOfBlanks() {
        orders("", 0);
        orders(" ", 1);
        orders("     ", 5);
        orders(" ".repeat(400), 400);
        SermonPanes x = new SermonPanes();
        Edges.orders(x, "pass");
        due("bytes", x.count(7), 0);
        due("again", x.orders(), -6);
        due("its FAULT", x.fault(), 0);
    }

    @Edges.Edge(promise = 14, says = "Of both languages: CLAUSE {\";\" CLAUSE}, 12 at most")
    static void twelveOrders() {
        String eleven = "pass if 1=2;".repeat(11);
        orders(eleven + "pass if 1=2", NONE);
        orders(eleven + "pass if 1=2;pass if 1=2", 144);
        orders(eleven + "pass if 1=2;", 144);
        orders("pass;", 5);
        orders(";pass", 0);
    }

    @Edges.Edge(promise = 14, says = "TIMES: a NUMBER 1 .. 20.")
    static void timesOfOrders() {
        orders("pass times 0 if 1=2", 11);
        orders("pass times 21 if 1=2", 11);
        orders("pass times 1 if 1=2", NONE);
        orders("pass times 20 if 1=2", NONE);
        orders("pass times 0020 if 1=2", NONE);
        orders("pass times hour", 11);
        orders("pass times [1]", 11);
        orders("pass times", 10);
        orders("pass times 1 times 1", 13);
        orders("pass times 1 + 1", 13);
        orders("pass if 1=2 times 2", 12);
        orders("pass times 4294967297", 11);
        SermonPanes x = new SermonPanes();
        due("20 times", Edges.orders(x, "pass times 20"), 20);
        due("HOUR", x.count(14), 20);
        due("once", Edges.orders(x, "pass times 1"), 1);
        due("HOUR", x.count(14), 21);
    }

    @Edges.Edge(promise = 14, says = "(P: a NUMBER 0 .. 15, L: 0 .. 5)")
    static void panesAndListenersInOrders() {
        String[] hues = {"red", "blue", "green"};
        for (String hue : hues) {
            orders("pass if " + hue + " 15 = 1", NONE);
            orders("pass if " + hue + " 0 = 1", NONE);
            orders("pass if " + hue + " 16 = 1", 9 + hue.length());
            orders("pass if " + hue + " = 1", 9 + hue.length());
            orders("pass if " + hue + " [1] = 1", 9 + hue.length());
            orders("pass if " + hue, 8 + hue.length());
        }
        orders("pass if spirit 5 = 1", NONE);
        orders("pass if spirit 6 = 1", 15);
        orders("pass if spirit done = 1", 15);
        orders("pass if spirit 1000000000000 = 1", 15);
        SermonPanes x = new SermonPanes();
        Edges.row(x, 15, 1, 2, 3, 0, 4, 5, 6);
        due("red, blue, green", Edges.orders(x,
                "pass if red 15 = 1 and blue 15 = 2 and green 15 = 3 and red 0 = 4 and blue 0 = 5 and green 0 = 6"), 1);
    }

    @Edges.Edge(promise = 14, says = "P, L, TIMES aside, NUMBERS and words count as PARTS.")
    static void partsOfOrders() {
        orders("pass times 20 if red 1" + "+red 1".repeat(48) + "=1", NONE);
        orders("pass times 20 if red 1" + "+red 1".repeat(49) + "=1", 317);
        orders("pass times 20 if hour" + "+1".repeat(48) + "=1", NONE);
        orders("pass times 20 if hour" + "+1".repeat(49) + "=1", 120);
        orders("pass if spirit 5" + "+spirit 5".repeat(29) + "+1".repeat(19) + "=1", NONE);
        orders("pass if spirit 5" + "+spirit 5".repeat(29) + "+1".repeat(20) + "=1", 318);
    }

    @Edges.Edge(promise = 14, says = "50 PARTS that are NUMBERS and words (FAULT at the 51st), 8 brackets of both kinds within one another (FAULT at the 9th) at most.")
    static void textsAreCountedOneByOne() {
        SermonPanes x = new SermonPanes();
        for (int i = 0; i < 12; i++) {
            due("51 PARTS, " + i, Edges.orders(x, "walk hour" + "+0".repeat(47) + "+1 if done=0"), -6);
            due("their FAULT", x.fault(), 114);
            due("50 PARTS and 8 brackets, " + i,
                    Edges.orders(x, "walk [[[[[[[[" + "1+".repeat(3) + (i % 2 == 0 ? 2 : 3) + "]]]]]]]]" + "+0".repeat(44) + " if done=0"), 1);
            due("PULPIT", x.count(3), i % 2 == 0 ? 5 : 6);
        }
    }

    @Edges.Edge(promise = 14, says = "all is as it was ahead of it.")
    static void whatCanBeUndoneIsAsItWas() {
        SermonPanes x = Edges.with(0, 5);
        // 22 steps, so that the oldest went already; then more than 16 that are all taken back.
        for (int i = 1; i <= 11; i++) {
            x.walk(i);
            x.pass();
        }
        Edges.tape(x, "preach 0 times 20;walk 1;preach 0;walk 16");
        Edges.refused(x, -3, "ORDERS", x::orders);
        for (int i = 11; i > 3; i--) {
            due("undo()", x.undo(), 4);
            due("HOUR", x.count(14), i - 1);
            due("PULPIT", x.count(3), i);
            due("undo()", x.undo(), 2);
            due("PULPIT", x.count(3), i - 1);
        }
        due("none more", x.undo(), -3);
    }

    @Edges.Edge(promise = 14, says = "8 brackets of both kinds within one another")
    static void bracketsOfOrders() {
        orders("walk " + "[".repeat(8) + "1" + "]".repeat(8) + " if 1=2", NONE);
        orders("walk " + "[".repeat(9) + "1", 13);
        orders("pass if " + "(".repeat(8) + "1=2" + ")".repeat(8), NONE);
        orders("pass if " + "(".repeat(9) + "1=2", 16);
        orders("scrape [1] of [[1]] if 1=2", NONE);
    }

    @Edges.Edge(promise = 14, says = "CLAUSE: (\"preach\" SUM | \"scrape\" SUM \"of\" SUM | \"walk\" SUM | \"sit\" SUM \"at\" SUM | \"pass\") [\"times\" TIMES] [\"if\" TEST].")
    static void clausesOfOrders() {
        orders("preach", 6);
        orders("scrape 1", 8);
        orders("scrape 1 at 1", 9);
        orders("scrape 1 of", 11);
        orders("walk", 4);
        orders("sit 1", 5);
        orders("sit 1 of 1", 6);
        orders("sit 1 at", 8);
        orders("pass 1", 5);
        orders("pass if", 7);
        orders("walk 1 of 1", 7);
        orders("stains 1", 0);
        orders("bars", 0);
    }

    @Edges.Edge(promise = 14, says = "Words: \"hour\" | \"done\" | \"latest\" | \"pulpit\" | \"black\"")
    static void wordsOfOrders() {
        orders("pass if hour+done+latest+pulpit+black+red 1+blue 1+green 1+spirit 1=99", NONE);
        String[] others = {"word", "hue", "force", "away", "row", "column", "mood", "pass", "times", "of"};
        for (String other : others) {
            orders("pass if " + other + " = 1", 8);
        }
        orders("walk hour 1", 10);
    }

    @Edges.Edge(promise = 14, says = "each as often as TIMES tell (once without); each time its \"if\" is asked (not run, if it is not so or BROKEN)")
    static void ifIsAskedEachTime() {
        SermonPanes x = new SermonPanes();
        due("till 3", Edges.orders(x, "pass times 20 if hour < 3"), 3);
        due("not so", Edges.orders(x, "walk 99 if 1 = 2"), 0);
        due("BROKEN", Edges.orders(x, "walk 99 if 1 / 0 = 1"), 0);
        due("BROKEN from the third time on", Edges.orders(x, "pass times 5 if 6 / [5 - hour] > 0"), 2);
        due("its SUMS are not asked then", Edges.orders(x, "walk 1 / 0 if 1 = 2"), 0);
        due("once", Edges.orders(x, "pass"), 1);
        due("not REFUSED", x.status(), 0);
    }

    @Edges.Edge(promise = 14, says = "latest: what the latest preach in it told (-1: none)")
    static void latestInOrders() {
        SermonPanes x = Edges.with(0, 1, 1, 9);
        x.preach(1);
        due("none in this TEXT", Edges.orders(x, "pass if latest = 0 - 1"), 1);
        due("the latest one", Edges.orders(x, "preach 1;preach 0;pass if latest = 1"), 3);
        due("not of a TEXT ahead", Edges.orders(x, "pass if latest = 0 - 1"), 1);
        Edges.row(x, 0, 99, 0, 0);
        due("0, where nothing was got", Edges.orders(x, "preach 0;pass if latest = 0"), 2);
    }

    @Edges.Edge(promise = 14, says = "done: how many were run in this TEXT")
    static void doneInOrders() {
        SermonPanes x = new SermonPanes();
        due("none at first", Edges.orders(x, "pass if done = 0"), 1);
        due("not those of a TEXT ahead", Edges.orders(x, "pass if done = 0;pass if done = 0;pass times 5 if done < 3"), 3);
    }

    @Edges.Edge(promise = 14, says = "black: how many PANES are BLACK, spirit: -1 without such a LISTENER.")
    static void blackAndSpiritInOrders() {
        SermonPanes x = Edges.seating(new SermonPanes(), 0, 0);
        due("no LISTENER 1", Edges.orders(x, "pass if spirit 1 = 0 - 1 and spirit 5 = 0 - 1"), 1);
        due("LISTENER 0 with 0", Edges.orders(x, "pass if spirit 0 = 0"), 1);
        Edges.seating(x, 1, 7, 2, 8, 3, 9, 4, 10, 5, 99);
        due("LISTENER 5 with 99", Edges.orders(x, "pass if spirit 5 = 99 and spirit 1 = 7"), 1);
        SermonPanes w = Edges.seating(new SermonPanes(), 0, 50);
        due("LISTENER 0 with 50", Edges.orders(w, "pass if spirit 0 = 50"), 1);
        due("none BLACK", Edges.orders(x, "pass if black = 0"), 1);
        SermonPanes y = Edges.under("blacks 0");
        due("all BLACK", Edges.orders(y, "pass if black = 16"), 1);
        SermonPanes z = Edges.add(Edges.under("stains 20;blacks 20"), 0, 9);
        due("as it is each time", Edges.orders(z, "pass if black = 0;preach 0;pass if black = 16"), 3);
    }

    @Edges.Edge(promise = 14, says = "One that can't be (a BROKEN SUM, as preach(), scrape(), walk(), sit(), pass() are REFUSED) ends it: all is as it was ahead of it.")
    static void ordersThatCanNotBe() {
        String[] last = {"preach 1", "preach 0 - 1", "preach 8", "preach 1 / 0", "preach 1000 * 1000 * 1000 + 1",
            "scrape 16 of 0", "scrape 0 - 1 of 0", "scrape 0 of 3", "scrape 0 of 0 - 1", "scrape 15 of 0",
            "scrape 1 / 0 of 0", "scrape 0 of 1 % 0",
            "walk 16", "walk 0 - 1", "walk pulpit", "walk 1 / 0",
            "sit 2 at 1", "sit 0 - 1 at 1", "sit 0 at 8", "sit 0 at 0 - 1", "sit 0 at 6", "sit 0 at 7",
            "sit 1 / 0 at 1", "sit 0 at 1 / 0"};
        for (String order : last) {
            SermonPanes x = Edges.seating(Edges.with(0, 3), 0, 40, 6, 50);
            x.pass();
            Edges.tape(x, "preach 0;scrape 0 of 0;walk 5;sit 0 at 7;pass;" + order + ";pass");
            Edges.refused(x, -3, order, x::orders);
            due("stopped by " + order, x.stopped(), 5);
            due("bytes behind " + order, x.count(7), 0);
            due("FAULT of " + order, x.fault(), NONE);
            due("undone behind " + order, x.undo(), 4);
            due("HOUR then", x.count(14), 0);
        }
        SermonPanes y = Edges.add(Edges.under("bars if hour = 1"), 0, 3);
        Edges.tape(y, "preach 0;pass;preach 0");
        Edges.refused(y, -3, "a BARRED one", y::orders);
        SermonPanes z = new SermonPanes();
        z.terms(0, 998);
        Edges.tape(z, "pass times 2");
        Edges.refused(z, -3, "an HOUR behind 999", z::orders);
        due("to 999", Edges.orders(z, "pass"), 1);
    }

    @Edges.Edge(promise = 14, says = "ORDERS, the TAPE is empty then: how many were run.")
    static void howManyWereRun() {
        SermonPanes x = new SermonPanes();
        due("none", Edges.orders(x, "pass if 1 = 2"), 0);
        due("bytes", x.count(7), 0);
        due("240, the most", Edges.orders(x, "pass times 20" + ";pass times 20".repeat(11)), 240);
        due("HOUR", x.count(14), 240);
        due("16 can be undone", x.count(6), 16);
    }

    @Edges.Edge(promise = 15, says = "FAULT of the latest law(), orders() that read a TEXT: its place; NONE without.")
    static void faultOfTheLatest() {
        SermonPanes x = new SermonPanes();
        due("ahead of any", x.fault(), NONE);
        Edges.law(x, "bars 5");
        due("of law()", x.fault(), 5);
        Edges.orders(x, "pass if 1 = 2");
        due("none of orders()", x.fault(), NONE);
        Edges.orders(x, "pass if");
        due("of orders()", x.fault(), 7);
        Edges.row(x, 0, 0, 0, 0);
        due("behind row()", x.fault(), 7);
        Edges.law(x, "bars");
        due("none of law()", x.fault(), NONE);
        Edges.orders(x, "walk 99");
        due("ORDERS that can't be are read", x.fault(), NONE);
        x.law();
        due("of no byte", x.fault(), 0);
    }

    @Edges.Edge(promise = 15, says = "that read a TEXT")
    static void faultBehindALawThatFoundNoRoom() {
        SermonPanes x = new SermonPanes();
        for (int i = 0; i < 6; i++) {
            Edges.law(x, "bars");
        }
        Edges.orders(x, "pass bars");
        due("FAULT", x.fault(), 5);
        due("no room", Edges.law(x, "bars"), -5);
        due("FAULT of what was read", x.fault(), 5);
        due("no room", Edges.law(x, "bar"), -5);
        due("FAULT of what was read", x.fault(), 5);
    }

    @Edges.Edge(promise = 15, says = "FAULT: the first TOKEN that can't go on there (the end's: the TEXT's length).")
    static void faultPlaces() {
        law("b", 0);
        law("   b", 3);
        law("stains   1001", 9);
        law("stains", 6);
        law("stains    ", 10);
        law("bars if 1 = 1 x", 14);
        law("bars if 1 = 1 ;  ", 17);
        orders("walk   red   16", 13);
        orders("walk red", 8);
        orders("walk red   ", 11);
    }

    @Edges.Edge(promise = 16, says = "Which CLAUSE of the latest orders() could not be. NONE.")
    static void stoppedAt() {
        SermonPanes x = new SermonPanes();
        due("ahead of any", x.stopped(), NONE);
        Edges.orders(x, "walk 99");
        due("the first", x.stopped(), 0);
        Edges.orders(x, "pass");
        due("none", x.stopped(), NONE);
        Edges.orders(x, "pass;".repeat(11) + "walk 99");
        due("the twelfth", x.stopped(), 11);
        Edges.law(x, "bars");
        due("behind law()", x.stopped(), 11);
        Edges.orders(x, "pass if");
        due("behind a FAULT", x.stopped(), NONE);
        Edges.orders(x, "pass times 5;walk pulpit + 5 times 4;pass");
        due("within its times", x.stopped(), 1);
        x.orders();
        due("of no byte", x.stopped(), NONE);
    }

    @Edges.Edge(promise = 17, says = "A LAW is in FORCE (NONE: none): which was. -2.")
    static void forceOfNoSuchLaw() {
        SermonPanes x = new SermonPanes();
        Edges.refused(x, -2, "force(0) without LAWS", () -> x.force(0));
        Edges.taken(x, "force(NONE)", () -> x.force(NONE), NONE);
        SermonPanes y = new SermonPanes();
        Edges.law(y, "bars");
        Edges.refused(y, -2, "force(1)", () -> y.force(1));
        Edges.refused(y, -2, "force(-2)", () -> y.force(-2));
        for (int far : Edges.FAR) {
            SermonPanes z = Edges.under("bars");
            Edges.refused(z, -2, "force(" + far + ")", () -> z.force(far));
        }
    }

    @Edges.Edge(promise = 17, says = "which was")
    static void whichWasInForce() {
        SermonPanes x = new SermonPanes();
        for (int i = 0; i < 6; i++) {
            Edges.law(x, "blacks " + i);
        }
        due("a LAW is not in FORCE by itself", x.count(13), NONE);
        Edges.taken(x, "force(5)", () -> x.force(5), NONE);
        due("by it", x.at(0, 3), 5);
        Edges.taken(x, "force(0)", () -> x.force(0), 5);
        due("by it", x.at(0, 3), 0);
        Edges.taken(x, "force(NONE)", () -> x.force(NONE), 0);
        due("by none", x.at(0, 3), 60);
        Edges.taken(x, "force(NONE) again", () -> x.force(NONE), NONE);
    }

    public static void main(String[] args) throws Exception {
        Edges.run(EdgesOfTextsTest.class, 13, 17);
    }
}
