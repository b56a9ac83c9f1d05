import java.util.Arrays;

/**
 * Windows that take their colour from what is preached. The words in capitals
 * in the comments are those of the document.
 */
public final class SermonPanes {
    public static final int NONE = -1;
    public static final int NOTHING = -1000;

    private static final int BAD_NUMBER = -1;
    private static final int NO_SUCH = -2;
    private static final int CAN_NOT_BE = -3;
    private static final int NO_ROOM = -5;
    private static final int BAD_TEXT = -6;
    private static final int REFUSALS = 5;

    private static final int PANES = 16;
    private static final int SIDE = 4;
    private static final int HUES = 3;
    private static final int MOST_OF_A_HUE = 99;
    private static final int WORDS = 8;
    private static final int STRONGEST = 9;
    private static final int SEATS = 8;
    private static final int LISTENERS = 6;
    private static final int HIGHEST_SPIRIT = 99;
    private static final int TOLDS = 8;
    private static final int TOLD_PARTS = 3;
    private static final int LAWS = 6;
    private static final int IMAGES = 2;
    private static final int LAST_HOUR = 999;
    private static final int MOST_COMES = 10;
    private static final int MOST_MOOD = 9;
    private static final int UNDOABLE = 16;
    private static final int MOST_STAIN = 20;
    private static final int MOST_DOES = 9;
    private static final int MOST_BLACK_FROM = 300;
    private static final int PLAIN_BLACK_FROM = 60;

    private static final int HIGHEST_SEED = 1000000;
    private static final int SEED_MODULUS = 1000003;
    private static final int LONGEST = 60;
    private static final int MOST_FEW = 20;
    private static final int MOST_VISITORS = 99;
    private static final long SURE = 1000000000000L;

    private static final int TAPE = 400;
    private static final int FED = 20;
    private static final int PANE_BYTES = 1 + HUES;
    private static final int CLAUSES = 12;
    private static final int PARTS = 50;
    private static final int BRACKETS = 8;
    private static final int HIGHEST_NUMBER = 1000;
    private static final int HIGHEST_TIMES = 20;

    private static final int FURTHEST = 1000000000;
    /** Further than any SUM that is not BROKEN. */
    private static final int BROKEN = -2 * FURTHEST;

    private static final int STAINS = 0;
    private static final int DOES = 1;
    private static final int BLACKS = 2;
    private static final int BARS = 3;
    private static final String LAW_KINDS = "stains does blacks bars";
    private static final String LAW_WORDS =
            "word hue force away row column red blue green spirit hour mood";
    private static final int ASKED_WORD = 0;
    private static final int ASKED_HUE = 1;
    private static final int ASKED_FORCE = 2;
    private static final int ASKED_AWAY = 3;
    private static final int ASKED_ROW = 4;
    private static final int ASKED_COLUMN = 5;
    private static final int ASKED_RED = 6;
    private static final int ASKED_SPIRIT = 9;
    private static final int ASKED_HOUR = 10;
    private static final int ASKED_MOOD = 11;
    private static final int ASKED = 12;

    private static final int PREACH = 0;
    private static final int SCRAPE = 1;
    private static final int WALK = 2;
    private static final int SIT = 3;
    private static final int PASS = 4;
    private static final String ORDER_KINDS = "preach scrape walk sit pass";
    private static final String ORDER_WORDS =
            "hour done latest pulpit black red blue green spirit";
    private static final int ORDER_BLACK = 4;
    private static final int ORDER_RED = 5;
    private static final int ORDER_SPIRIT = 8;
    private static final int VALUE_HUES = 5;
    private static final int VALUE_SPIRITS = VALUE_HUES + HUES * PANES;
    private static final int VALUES = VALUE_SPIRITS + LISTENERS;

    private final Sums sums = new Sums();
    private final Church church = new Church(sums);
    private final Church yearly = new Church(sums);
    private final Church[] images = new Church[IMAGES];
    private final boolean[] imageKept = new boolean[IMAGES];
    private final Trail trail = new Trail();
    private final Runner runner = new Runner(church, trail, sums);
    private final Paper paper = new Paper(church, sums);
    private final int[] tape = new int[TAPE];
    private final Reader reader = new Reader(tape);
    private final int[] refused = new int[REFUSALS];
    private int tapeLength = 0;
    private int leadCount = 0;
    private int latestRefusal = 0;
    private boolean yearsKept = false;

    public SermonPanes() {
        for (int k = 0; k < IMAGES; k++) {
            images[k] = new Church(sums);
        }
    }

    public int word(int hue, int force) {
        if (!isHue(hue) || !within(force, 1, STRONGEST)) {
            return refuse(BAD_NUMBER);
        }
        if (church.words >= WORDS) {
            return refuse(NO_ROOM);
        }
        int number = church.words;
        church.wordHue[number] = hue;
        church.wordForce[number] = force;
        church.words++;
        trail.clear();
        return accept(number);
    }

    public int of(int word, int what) {
        if (!church.isWord(word)) {
            return NONE;
        }
        if (what == 0) {
            return church.wordHue[word];
        }
        if (what == 1) {
            return church.wordForce[word];
        }
        if (what == 2) {
            return church.isBarred(word) ? 1 : 0;
        }
        return within(what, 3, 2 + PANES) ? church.stainOf(word, what - 3) : NONE;
    }

    public int at(int pane, int what) {
        if (!isPane(pane)) {
            return NONE;
        }
        if (isHue(what)) {
            return church.now.hueOf(pane, what);
        }
        switch (what) {
            case 3:
                return church.blackFrom(pane);
            case 4:
                return church.isBlack(pane) ? 1 : 0;
            case 5:
                return church.awayOf(pane);
            default:
                return NONE;
        }
    }

    public int listener(int seat, int spirit) {
        if (!isSeat(seat) || !within(spirit, 0, HIGHEST_SPIRIT)) {
            return refuse(BAD_NUMBER);
        }
        if (church.isTaken(seat)) {
            return refuse(CAN_NOT_BE);
        }
        if (church.listeners >= LISTENERS) {
            return refuse(NO_ROOM);
        }
        int number = church.listeners;
        church.now.seats[number] = seat;
        church.now.spirits[number] = spirit;
        church.listeners++;
        trail.clear();
        return accept(number);
    }

    public int has(int listener, int what) {
        if (!church.isListener(listener)) {
            return NOTHING;
        }
        switch (what) {
            case 0:
                return church.now.seats[listener];
            case 1:
                return church.now.spirits[listener];
            case 2:
                church.shine(church.now.seats[listener]);
                return church.doesTo(listener);
            default:
                return NOTHING;
        }
    }

    public int light(int seat, int what) {
        if (!isSeat(seat) || !isHue(what)) {
            return NONE;
        }
        church.shine(seat);
        return church.light[what];
    }

    public int terms(int what, int value) {
        if (!within(what, 0, 2) || !within(value, 0, highestTerm(what))) {
            return refuse(BAD_NUMBER);
        }
        int before = church.termOf(what);
        if (what == 0) {
            church.now.hour = value;
        } else if (what == 1) {
            church.comes = value;
        } else {
            church.mood = value;
        }
        trail.clear();
        return accept(before);
    }

    public int feed(int a, int b, int c, int d, int e) {
        if (tapeLength + FED > TAPE) {
            return NONE;
        }
        append(a);
        append(b);
        append(c);
        append(d);
        append(e);
        return tapeLength;
    }

    public int end(int n) {
        if (!within(n, 0, tapeLength)) {
            return NONE;
        }
        tapeLength = n;
        return n;
    }

    public int row() {
        if (tapeLength == 0) {
            return refuse(BAD_TEXT);
        }
        int panesTold = 0;
        leadCount = 0;
        for (int from = 0; from < tapeLength; from += PANE_BYTES) {
            if (tellPane(from)) {
                panesTold++;
            } else {
                leadCount++;
            }
        }
        tapeLength = 0;
        trail.clear();
        return accept(panesTold);
    }

    public int leads() {
        return leadCount;
    }

    public int law() {
        int length = takeTape();
        if (church.lawCount >= LAWS) {
            return refuse(NO_ROOM);
        }
        if (!reader.reads(length, false)) {
            return refuse(BAD_TEXT);
        }
        int number = church.lawCount;
        church.laws[number] = reader.text.trimmed();
        church.lawCount++;
        return accept(number);
    }

    public int orders() {
        runner.stoppedAt = NONE;
        if (!reader.reads(takeTape(), true)) {
            return refuse(BAD_TEXT);
        }
        runner.begin();
        for (int clause = 0; clause < reader.text.clauses; clause++) {
            runner.runClause(reader.text, clause);
        }
        int told = runner.finish();
        return told < 0 ? refuse(told) : accept(told);
    }

    public int fault() {
        return reader.faultAt;
    }

    public int stopped() {
        return runner.stoppedAt;
    }

    public int force(int law) {
        if (law != NONE && !church.isLaw(law)) {
            return refuse(NO_SUCH);
        }
        int before = church.inForce;
        church.inForce = law;
        return accept(before);
    }

    public int preach(int word) {
        trail.hold(church.now);
        return settle(PREACH, church.preachWord(word));
    }

    public int scrape(int pane, int hue) {
        trail.hold(church.now);
        return settle(SCRAPE, church.scrapeOne(pane, hue));
    }

    public int walk(int place) {
        trail.hold(church.now);
        return settle(WALK, church.walkTo(place));
    }

    public int sit(int listener, int seat) {
        trail.hold(church.now);
        return settle(SIT, church.seatAt(listener, seat));
    }

    public int pass() {
        trail.hold(church.now);
        return settle(PASS, church.passHour());
    }

    public int undo() {
        int kind = trail.takeLatest(church.now);
        return kind == NONE ? refuse(CAN_NOT_BE) : accept(kind);
    }

    public int sermon(int pane, int red, int blue, int green, int i) {
        if (!isPane(pane) || !isAmount(red) || !isAmount(blue) || !isAmount(green)) {
            return NONE;
        }
        int length = paper.prepareSermon(pane, red, blue, green);
        if (i == NONE || length == NONE) {
            return length;
        }
        return within(i, 0, length - 1) ? paper.wordOfSermon(i) : NONE;
    }

    public int told(int pane, int hue, int much) {
        if (!isPane(pane) || !isHue(hue) || !isAmount(much)) {
            return refuse(BAD_NUMBER);
        }
        if (church.tolds >= TOLDS) {
            return refuse(NO_ROOM);
        }
        int from = church.tolds * TOLD_PARTS;
        church.toldParts[from] = pane;
        church.toldParts[from + 1] = hue;
        church.toldParts[from + 2] = much;
        church.tolds++;
        return accept(church.tolds);
    }

    public int forget() {
        int before = church.tolds;
        church.tolds = 0;
        return before;
    }

    public int preached(int i) {
        int sets = paper.findSets();
        if (i == NONE) {
            return sets;
        }
        return within(i, 0, sets - 1) ? paper.sets[i] : NONE;
    }

    public int look(int what) {
        if (!within(what, 0, 1) || paper.findSets() == 0) {
            return NONE;
        }
        int pane = paper.findPaneToLookAt();
        return what == 0 ? pane : paper.mostAlike;
    }

    public int seated(int what) {
        if (!within(what, 0, church.listeners)) {
            return NOTHING;
        }
        int most = paper.prepareSeats();
        return what == 0 ? most : paper.seatOf(what - 1);
    }

    public int cleared(int seat) {
        return isSeat(seat) ? paper.scrapingsFor(seat) : NONE;
    }

    public int apart(int what) {
        if (!within(what, 0, 1)) {
            return NONE;
        }
        int panes = paper.fewestPanesApart();
        if (panes == NONE) {
            return NONE;
        }
        return what == 0 ? Integer.bitCount(panes) : panes;
    }

    public int place(int pane, int what) {
        if (!isPane(pane) || !within(what, 0, 1)) {
            return NONE;
        }
        int best = paper.bestPlaceFor(pane);
        return what == 0 ? best : paper.mostStain;
    }

    public int way(int place, int i) {
        if (!isPane(place) || place == church.now.pulpit) {
            return NONE;
        }
        int blackOnes = paper.prepareWay(place);
        if (i == NONE) {
            return blackOnes;
        }
        return within(i, 0, church.awayOf(place) - 1) ? paper.placeOfWay(i) : NONE;
    }

    public int later(int listener, int n) {
        if (!church.isListener(listener) || !within(n, 0, LONGEST)) {
            return NONE;
        }
        return paper.spiritLater(listener, n);
    }

    public int blackened(int law) {
        if (law != NONE && !church.isLaw(law)) {
            return NONE;
        }
        return paper.blackBy(law);
    }

    public long few(int k, int n) {
        if (!within(k, 1, MOST_FEW) || !within(n, 0, MOST_VISITORS)) {
            return NONE;
        }
        return paper.chanceOfFewer(k, n);
    }

    public int years(int seed, int n) {
        if (!within(seed, 0, HIGHEST_SEED) || !within(n, 1, LONGEST)) {
            return refuse(BAD_NUMBER);
        }
        if (church.words == 0) {
            return refuse(CAN_NOT_BE);
        }
        yearly.copyFrom(church);
        yearsKept = true;
        return accept(yearly.liveYears(seed, n));
    }

    public int drawn(int k, int what) {
        if (!yearsKept) {
            return NONE;
        }
        if (isHue(what)) {
            return isPane(k) ? yearly.now.hueOf(k, what) : NONE;
        }
        return what == HUES && yearly.isListener(k) ? yearly.now.spirits[k] : NONE;
    }

    public int image(int k) {
        if (!within(k, 0, IMAGES - 1)) {
            return refuse(BAD_NUMBER);
        }
        images[k].copyFrom(church);
        imageKept[k] = true;
        return accept(0);
    }

    public int back(int k) {
        if (!within(k, 0, IMAGES - 1)) {
            return refuse(BAD_NUMBER);
        }
        if (!imageKept[k]) {
            return refuse(NO_SUCH);
        }
        church.copyFrom(images[k]);
        trail.clear();
        return accept(0);
    }

    public int count(int what) {
        if (within(what, 8, 7 + REFUSALS)) {
            return refused[what - 8];
        }
        if (within(what, 14, 16)) {
            return church.termOf(what - 14);
        }
        switch (what) {
            case 0:
                return church.words;
            case 1:
                return church.listeners;
            case 2:
                return church.blackPanes();
            case 3:
                return church.now.pulpit;
            case 4:
                return church.tolds;
            case 5:
                return church.lawCount;
            case 6:
                return trail.size;
            case 7:
                return tapeLength;
            case 13:
                return church.inForce;
            default:
                return NONE;
        }
    }

    public int status() {
        return latestRefusal;
    }

    private int refuse(int by) {
        latestRefusal = by;
        // There is no -4, so what comes behind -3 moves up by one.
        int slot = by >= CAN_NOT_BE ? -by - 1 : -by - 2;
        if (within(slot, 0, REFUSALS - 1)) {
            refused[slot]++;
        }
        return by;
    }

    private int accept(int answer) {
        latestRefusal = 0;
        return answer;
    }

    /** A step's answer is below 0 only where it is REFUSED. */
    private int settle(int kind, int answer) {
        if (answer < 0) {
            return refuse(answer);
        }
        trail.keep(kind);
        return accept(answer);
    }

    private void append(int number) {
        for (int shift = 24; shift >= 0 && tapeLength < TAPE; shift -= 8) {
            tape[tapeLength] = (number >>> shift) & 255;
            tapeLength++;
        }
    }

    private int takeTape() {
        int length = tapeLength;
        tapeLength = 0;
        return length;
    }

    private boolean tellPane(int from) {
        if (from + PANE_BYTES > tapeLength || !isPane(tape[from])) {
            return false;
        }
        for (int hue = 0; hue < HUES; hue++) {
            if (!isAmount(tape[from + 1 + hue])) {
                return false;
            }
        }
        System.arraycopy(tape, from + 1, church.now.hues, tape[from] * HUES, HUES);
        return true;
    }

    private static int highestTerm(int what) {
        if (what == 0) {
            return LAST_HOUR;
        }
        return what == 1 ? MOST_COMES : MOST_MOOD;
    }

    private static boolean within(int value, int lowest, int highest) {
        return value >= lowest && value <= highest;
    }

    private static boolean isPane(int pane) {
        return within(pane, 0, PANES - 1);
    }

    private static boolean isHue(int hue) {
        return within(hue, 0, HUES - 1);
    }

    private static boolean isSeat(int seat) {
        return within(seat, 0, SEATS - 1);
    }

    private static boolean isAmount(int much) {
        return within(much, 0, MOST_OF_A_HUE);
    }

    private static int nearest(int value, int lowest, int highest) {
        return Math.max(lowest, Math.min(highest, value));
    }

    private static int distance(int place, int other) {
        return Math.abs(place / SIDE - other / SIDE) + Math.abs(place % SIDE - other % SIDE);
    }

    /** What preach(), scrape(), walk(), sit() and pass() change, and nothing else. */
    private static final class Nave {
        final int[] hues = new int[PANES * HUES];
        final int[] spirits = new int[LISTENERS];
        final int[] seats = new int[LISTENERS];
        int pulpit = 0;
        int hour = 0;

        void copyFrom(Nave other) {
            System.arraycopy(other.hues, 0, hues, 0, hues.length);
            System.arraycopy(other.spirits, 0, spirits, 0, LISTENERS);
            System.arraycopy(other.seats, 0, seats, 0, LISTENERS);
            pulpit = other.pulpit;
            hour = other.hour;
        }

        int hueOf(int pane, int hue) {
            return hues[pane * HUES + hue];
        }

        int allHuesOf(int pane) {
            int from = pane * HUES;
            return hues[from] + hues[from + 1] + hues[from + 2];
        }
    }

    /** All that an IMAGE keeps, the LAWS as they are asked, and the single steps. */
    private static final class Church {
        final Nave now = new Nave();
        final int[] wordHue = new int[WORDS];
        final int[] wordForce = new int[WORDS];
        final int[] toldParts = new int[TOLDS * TOLD_PARTS];
        final Text[] laws = new Text[LAWS];
        /** What the latest shine() left. */
        final int[] light = new int[HUES];
        int words = 0;
        int listeners = 0;
        int tolds = 0;
        int lawCount = 0;
        int inForce = NONE;
        int comes = 3;
        int mood = 0;
        private final int[] asked = new int[ASKED];
        private final Sums sums;

        Church(Sums sums) {
            this.sums = sums;
        }

        void copyFrom(Church other) {
            now.copyFrom(other.now);
            System.arraycopy(other.wordHue, 0, wordHue, 0, WORDS);
            System.arraycopy(other.wordForce, 0, wordForce, 0, WORDS);
            System.arraycopy(other.toldParts, 0, toldParts, 0, toldParts.length);
            for (int law = 0; law < LAWS; law++) {
                laws[law] = other.laws[law];
            }
            words = other.words;
            listeners = other.listeners;
            tolds = other.tolds;
            lawCount = other.lawCount;
            inForce = other.inForce;
            comes = other.comes;
            mood = other.mood;
        }

        boolean isWord(int word) {
            return within(word, 0, words - 1);
        }

        boolean isListener(int listener) {
            return within(listener, 0, listeners - 1);
        }

        boolean isLaw(int law) {
            return within(law, 0, lawCount - 1);
        }

        boolean isTaken(int seat) {
            for (int listener = 0; listener < listeners; listener++) {
                if (now.seats[listener] == seat) {
                    return true;
                }
            }
            return false;
        }

        int termOf(int what) {
            if (what == 0) {
                return now.hour;
            }
            return what == 1 ? comes : mood;
        }

        int awayOf(int pane) {
            return distance(pane, now.pulpit);
        }

        int stainOf(int word, int pane) {
            ask(word, pane);
            int told = lastTold(STAINS);
            int stain = told == BROKEN ? wordForce[word] - awayOf(pane) : told;
            return nearest(stain, 0, MOST_STAIN);
        }

        boolean isBarred(int word) {
            ask(word, NONE);
            return lastTold(BARS) != BROKEN;
        }

        int blackFrom(int pane) {
            ask(NONE, pane);
            int told = lastTold(BLACKS);
            return told == BROKEN ? PLAIN_BLACK_FROM : nearest(told, 0, MOST_BLACK_FROM);
        }

        boolean isBlack(int pane) {
            return now.allHuesOf(pane) >= blackFrom(pane);
        }

        int blackPanes() {
            int black = 0;
            for (int pane = 0; pane < PANES; pane++) {
                if (now.allHuesOf(pane) >= blackFrom(pane)) {
                    black++;
                }
            }
            return black;
        }

        /** The upper of the two PANES whose light a SEAT has now; the lower is a ROW below. */
        int upperPaneOf(int seat) {
            int column = (seat + now.hour) % SIDE;
            return (seat < SIDE ? 0 : 2 * SIDE) + column;
        }

        void shine(int seat) {
            Arrays.fill(light, 0);
            int upper = upperPaneOf(seat);
            for (int pane = upper; pane <= upper + SIDE; pane += SIDE) {
                if (now.allHuesOf(pane) < blackFrom(pane)) {
                    for (int hue = 0; hue < HUES; hue++) {
                        light[hue] += now.hueOf(pane, hue);
                    }
                }
            }
        }

        /** What the light of the latest shine() DOES to a LISTENER. */
        int doesTo(int listener) {
            ask(NONE, NONE);
            System.arraycopy(light, 0, asked, ASKED_RED, HUES);
            asked[ASKED_SPIRIT] = now.spirits[listener];
            int told = lastTold(DOES);
            int does = told == BROKEN ? (light[1] - light[0]) / 10 : told;
            return nearest(does, -MOST_DOES, MOST_DOES);
        }

        int spiritAfter(int listener) {
            return nearest(now.spirits[listener] + doesTo(listener), 0, HIGHEST_SPIRIT);
        }

        /** NONE for a WORD or a PANE that is not asked of: all that is its own is -1 then. */
        private void ask(int word, int pane) {
            Arrays.fill(asked, -1);
            if (word != NONE) {
                asked[ASKED_WORD] = word;
                asked[ASKED_HUE] = wordHue[word];
                asked[ASKED_FORCE] = wordForce[word];
            }
            if (pane != NONE) {
                asked[ASKED_AWAY] = distance(pane, now.pulpit);
                asked[ASKED_ROW] = pane / SIDE;
                asked[ASKED_COLUMN] = pane % SIDE;
                System.arraycopy(now.hues, pane * HUES, asked, ASKED_RED, HUES);
            }
            asked[ASKED_HOUR] = now.hour;
            asked[ASKED_MOOD] = mood;
        }

        /** What the last CLAUSE of a kind that HOLDS tells; BROKEN where none does. */
        private int lastTold(int kind) {
            Text law = isLaw(inForce) ? laws[inForce] : null;
            if (law == null) {
                return BROKEN;
            }
            for (int clause = law.clauses - 1; clause >= 0; clause--) {
                if (law.kindOf(clause) == kind
                        && sums.worth(law, clause, Text.TEST, asked) == 1) {
                    int told = sums.worth(law, clause, Text.FIRST, asked);
                    if (told != BROKEN) {
                        return told;
                    }
                }
            }
            return BROKEN;
        }

        int preachWord(int word) {
            if (!isWord(word)) {
                return NO_SUCH;
            }
            if (isBarred(word)) {
                return CAN_NOT_BE;
            }
            int all = 0;
            // A stain asks nothing of other PANES, so each may be stained at once.
            for (int pane = 0; pane < PANES; pane++) {
                int at = pane * HUES + wordHue[word];
                int got = Math.min(stainOf(word, pane), MOST_OF_A_HUE - now.hues[at]);
                now.hues[at] += got;
                all += got;
            }
            return all;
        }

        int scrapeOne(int pane, int hue) {
            if (!isPane(pane) || !isHue(hue)) {
                return BAD_NUMBER;
            }
            int at = pane * HUES + hue;
            if (now.hues[at] == 0) {
                return CAN_NOT_BE;
            }
            now.hues[at]--;
            return now.hues[at];
        }

        int walkTo(int place) {
            if (!isPane(place) || place == now.pulpit) {
                return BAD_NUMBER;
            }
            int before = now.pulpit;
            now.pulpit = place;
            return before;
        }

        int seatAt(int listener, int seat) {
            if (!isSeat(seat)) {
                return BAD_NUMBER;
            }
            if (!isListener(listener)) {
                return NO_SUCH;
            }
            if (isTaken(seat)) {
                return CAN_NOT_BE;
            }
            int before = now.seats[listener];
            now.seats[listener] = seat;
            return before;
        }

        int passHour() {
            if (now.hour >= LAST_HOUR) {
                return CAN_NOT_BE;
            }
            // Light asks nothing of other SPIRITS, so each may be changed at once.
            for (int listener = 0; listener < listeners; listener++) {
                shine(now.seats[listener]);
                now.spirits[listener] = spiritAfter(listener);
            }
            now.hour++;
            return now.hour;
        }

        /** Changes this church: the caller hands a copy. */
        int liveYears(int seed, int n) {
            int s = seed;
            int preachings = 0;
            for (int time = 0; time < n && now.hour < LAST_HOUR && words > 0; time++) {
                s = nextSeed(s);
                int word = s % words;
                s = nextSeed(s);
                int place = s % PANES;
                s = nextSeed(s);
                int deed = s % 3;
                if (deed == 0 && preachWord(word) >= 0) {
                    preachings++;
                }
                if (deed == 1) {
                    now.pulpit = place;
                }
                passHour();
            }
            return preachings;
        }

        private static int nextSeed(int s) {
            return (int) ((s * 1103L + 12345L) % SEED_MODULUS);
        }
    }

    /** The latest steps with the Nave ahead of each, the oldest going first. */
    private static final class Trail {
        /** One more than can be undone: hold() must not spoil the oldest. */
        private static final int SLOTS = UNDOABLE + 1;
        private final Nave[] ahead = new Nave[SLOTS];
        private final int[] kinds = new int[SLOTS];
        private int first = 0;
        int size = 0;

        Trail() {
            for (int slot = 0; slot < SLOTS; slot++) {
                ahead[slot] = new Nave();
            }
        }

        void clear() {
            size = 0;
        }

        /** Notes what is ahead of a step that may yet be REFUSED. */
        void hold(Nave now) {
            ahead[(first + size) % SLOTS].copyFrom(now);
        }

        /** The step behind the latest hold() was done. */
        void keep(int kind) {
            kinds[(first + size) % SLOTS] = kind;
            if (size < UNDOABLE) {
                size++;
            } else {
                first = (first + 1) % SLOTS;
            }
        }

        int takeLatest(Nave now) {
            if (size == 0) {
                return NONE;
            }
            size--;
            int slot = (first + size) % SLOTS;
            now.copyFrom(ahead[slot]);
            return kinds[slot];
        }

        void copyFrom(Trail other) {
            first = other.first;
            size = other.size;
            System.arraycopy(other.kinds, 0, kinds, 0, SLOTS);
            for (int i = 0; i < size; i++) {
                int slot = (first + i) % SLOTS;
                ahead[slot].copyFrom(other.ahead[slot]);
            }
        }
    }

    /** A TEXT that was read: SUMS and TESTS behind one another, operands ahead of operators. */
    private static final class Text {
        static final int NUMBER = 0;
        static final int VALUE = 1;
        static final int NOT = 2;
        static final int AND = 3;
        static final int OR = 4;
        static final int PLUS = 5;
        static final int MINUS = 6;
        static final int TIMES = 7;
        static final int BY = 8;
        static final int LEFT = 9;
        static final int LESS = 10;
        static final int MORE = 11;
        static final int SAME = 12;

        /** Of a CLAUSE: its kind, how often, from where to where SUMS and TEST are. */
        static final int MARKS = 8;
        static final int KIND = 0;
        static final int OFTEN = 1;
        static final int FIRST = 2;
        static final int SECOND = 4;
        static final int TEST = 6;

        final int[] ops;
        final int[] args;
        final int[] marks;
        int size = 0;
        int clauses = 0;
        boolean asksBlack = false;

        Text(int room, int clauseRoom) {
            ops = new int[Math.max(0, room)];
            args = new int[Math.max(0, room)];
            marks = new int[Math.max(0, clauseRoom) * MARKS];
        }

        void clear() {
            size = 0;
            clauses = 0;
            asksBlack = false;
        }

        void add(int op, int arg) {
            if (size < ops.length) {
                ops[size] = op;
                args[size] = arg;
                size++;
            }
        }

        /** What is decided at an "or" or "and" goes on at what comes next. */
        void aimHere(int from) {
            if (within(from, 0, size - 1)) {
                args[from] = size;
            }
        }

        void begin(int kind) {
            int from = clauses * MARKS;
            marks[from + KIND] = kind;
            marks[from + OFTEN] = 1;
            for (int part = FIRST; part < MARKS; part++) {
                marks[from + part] = 0;
            }
        }

        void mark(int part, int value) {
            marks[clauses * MARKS + part] = value;
        }

        int kindOf(int clause) {
            return marks[clause * MARKS + KIND];
        }

        int oftenOf(int clause) {
            return marks[clause * MARKS + OFTEN];
        }

        Text trimmed() {
            Text copy = new Text(size, clauses);
            System.arraycopy(ops, 0, copy.ops, 0, size);
            System.arraycopy(args, 0, copy.args, 0, size);
            System.arraycopy(marks, 0, copy.marks, 0, copy.marks.length);
            copy.size = size;
            copy.clauses = clauses;
            copy.asksBlack = asksBlack;
            return copy;
        }
    }

    /** Works out SUMS and TESTS. */
    private static final class Sums {
        private final int[] stack = new int[PARTS + 1];

        /** A TEST's worth is 1 or 0. What is not there is worth 1: a CLAUSE without "if" holds. */
        int worth(Text text, int clause, int part, int[] values) {
            int mark = clause * Text.MARKS + part;
            int to = text.marks[mark + 1];
            int top = -1;
            int resume = 0;
            for (int i = text.marks[mark]; i < to; i++) {
                if (i < resume) {
                    continue;
                }
                int op = text.ops[i];
                int arg = text.args[i];
                if (op == Text.NUMBER || op == Text.VALUE) {
                    top++;
                    if (top >= stack.length || op == Text.VALUE && arg >= values.length) {
                        return BROKEN;
                    }
                    stack[top] = op == Text.NUMBER ? arg : values[arg];
                } else if (top < (op <= Text.OR ? 0 : 1)) {
                    return BROKEN;
                } else if (op == Text.NOT) {
                    stack[top] = 1 - stack[top];
                } else if (op == Text.AND || op == Text.OR) {
                    // What is decided stays; else what stands behind decides.
                    if ((stack[top] == 1) == (op == Text.OR)) {
                        resume = arg;
                    } else {
                        top--;
                    }
                } else {
                    top--;
                    long joined = join(op, stack[top], stack[top + 1]);
                    if (joined > FURTHEST || joined < -FURTHEST) {
                        return BROKEN;
                    }
                    stack[top] = (int) joined;
                }
            }
            return top < 0 ? 1 : stack[top];
        }

        private static long join(int op, long left, long right) {
            switch (op) {
                case Text.PLUS:
                    return left + right;
                case Text.MINUS:
                    return left - right;
                case Text.TIMES:
                    return left * right;
                case Text.BY:
                    return right == 0 ? BROKEN : left / right;
                case Text.LEFT:
                    return right == 0 ? BROKEN : left % right;
                case Text.LESS:
                    return left < right ? 1 : 0;
                case Text.MORE:
                    return left > right ? 1 : 0;
                default:
                    return left == right ? 1 : 0;
            }
        }
    }

    /** Reads a TEXT of either language from the TAPE, as the document's grammar says. */
    private static final class Reader {
        private static final int END = 0;
        private static final int LETTERS = 1;
        private static final int DIGITS = 2;
        private static final int SIGN = 3;
        private static final int BLANK = 32;

        final Text text = new Text(TAPE, CLAUSES);
        int faultAt = NONE;
        private final int[] bytes;
        private int length = 0;
        private boolean ordering = false;
        private int parts = 0;
        private int token = END;
        private int start = 0;
        private int stop = 0;
        private int number = 0;

        Reader(int[] bytes) {
            this.bytes = bytes;
        }

        boolean reads(int bytesToRead, boolean asOrders) {
            length = nearest(bytesToRead, 0, bytes.length);
            ordering = asOrders;
            parts = 0;
            stop = 0;
            faultAt = NONE;
            text.clear();
            next();
            boolean fine = clause();
            for (int i = 0; i < TAPE && fine && token != END; i++) {
                boolean goesOn = isSign(';');
                if (goesOn) {
                    next();
                }
                fine = goesOn && text.clauses < CLAUSES ? clause() : fail();
            }
            return fine;
        }

        private boolean clause() {
            int kind = indexIn(ordering ? ORDER_KINDS : LAW_KINDS);
            if (kind == NONE) {
                return fail();
            }
            next();
            text.begin(kind);
            boolean alone = kind == (ordering ? PASS : BARS);
            boolean fine = alone || sumAs(Text.FIRST);
            if (fine && ordering && kind == SCRAPE) {
                fine = wanted("of") && sumAs(Text.SECOND);
            }
            if (fine && ordering && kind == SIT) {
                fine = wanted("at") && sumAs(Text.SECOND);
            }
            if (fine && ordering && isWord("times")) {
                fine = often();
            }
            if (fine && isWord("if")) {
                next();
                text.mark(Text.TEST, text.size);
                fine = test(0);
                text.mark(Text.TEST + 1, text.size);
            }
            if (fine) {
                text.clauses++;
            }
            return fine;
        }

        private boolean often() {
            next();
            if (token != DIGITS || !within(number, 1, HIGHEST_TIMES)) {
                return fail();
            }
            text.mark(Text.OFTEN, number);
            next();
            return true;
        }

        private boolean sumAs(int part) {
            text.mark(part, text.size);
            boolean fine = sum(0);
            text.mark(part + 1, text.size);
            return fine;
        }

        private boolean test(int depth) {
            boolean fine = both(depth);
            for (int i = 0; i < TAPE && fine && isWord("or"); i++) {
                int decided = text.size;
                text.add(Text.OR, 0);
                next();
                fine = both(depth);
                text.aimHere(decided);
            }
            return fine;
        }

        private boolean both(int depth) {
            boolean fine = plain(depth);
            for (int i = 0; i < TAPE && fine && isWord("and"); i++) {
                int decided = text.size;
                text.add(Text.AND, 0);
                next();
                fine = plain(depth);
                text.aimHere(decided);
            }
            return fine;
        }

        private boolean plain(int depth) {
            boolean turned = false;
            for (int i = 0; i < TAPE && isWord("not"); i++) {
                turned = !turned;
                next();
            }
            boolean fine;
            if (isSign('(')) {
                fine = opened(depth) && test(depth + 1) && closed(')');
            } else {
                fine = sum(depth);
                int op = signIn("<>=", Text.LESS);
                if (fine && op == NONE) {
                    return fail();
                }
                if (fine) {
                    next();
                    fine = sum(depth);
                    text.add(op, 0);
                }
            }
            if (fine && turned) {
                text.add(Text.NOT, 0);
            }
            return fine;
        }

        private boolean sum(int depth) {
            boolean fine = term(depth);
            int op = signIn("+-", Text.PLUS);
            for (int i = 0; i < TAPE && fine && op != NONE; i++) {
                next();
                fine = term(depth);
                text.add(op, 0);
                op = signIn("+-", Text.PLUS);
            }
            return fine;
        }

        private boolean term(int depth) {
            boolean fine = part(depth);
            int op = signIn("*/%", Text.TIMES);
            for (int i = 0; i < TAPE && fine && op != NONE; i++) {
                next();
                fine = part(depth);
                text.add(op, 0);
                op = signIn("*/%", Text.TIMES);
            }
            return fine;
        }

        private boolean part(int depth) {
            if (isSign('[')) {
                return opened(depth) && sum(depth + 1) && closed(']');
            }
            if (parts >= PARTS) {
                return fail();
            }
            parts++;
            if (token == DIGITS && number <= HIGHEST_NUMBER) {
                text.add(Text.NUMBER, number);
                next();
                return true;
            }
            return ordering ? orderWord() : lawWord();
        }

        private boolean lawWord() {
            int asked = indexIn(LAW_WORDS);
            if (asked == NONE) {
                return fail();
            }
            text.add(Text.VALUE, asked);
            next();
            return true;
        }

        private boolean orderWord() {
            int asked = indexIn(ORDER_WORDS);
            if (asked == NONE) {
                return fail();
            }
            next();
            if (asked < ORDER_RED) {
                text.asksBlack = text.asksBlack || asked == ORDER_BLACK;
                text.add(Text.VALUE, asked);
                return true;
            }
            int highest = asked == ORDER_SPIRIT ? LISTENERS - 1 : PANES - 1;
            if (token != DIGITS || number > highest) {
                return fail();
            }
            int value = asked == ORDER_SPIRIT
                    ? VALUE_SPIRITS + number
                    : VALUE_HUES + number * HUES + asked - ORDER_RED;
            text.add(Text.VALUE, value);
            next();
            return true;
        }

        private boolean opened(int depth) {
            if (depth >= BRACKETS) {
                return fail();
            }
            next();
            return true;
        }

        private boolean closed(char sign) {
            if (!isSign(sign)) {
                return fail();
            }
            next();
            return true;
        }

        private boolean wanted(String word) {
            if (!isWord(word)) {
                return fail();
            }
            next();
            return true;
        }

        private boolean fail() {
            faultAt = start;
            return false;
        }

        private void next() {
            int i = stop;
            while (i < length && bytes[i] == BLANK) {
                i++;
            }
            start = i;
            token = i < length ? tokenOf(bytes[i]) : END;
            number = 0;
            if (token == SIGN) {
                i++;
            }
            for (; i < length && token != SIGN && tokenOf(bytes[i]) == token; i++) {
                // Beyond every number that can be it is enough to know that it is.
                number = token == DIGITS ? Math.min(number * 10 + bytes[i] - '0', HIGHEST_NUMBER + 1) : 0;
            }
            stop = i;
        }

        private static int tokenOf(int b) {
            if (b >= 'a' && b <= 'z') {
                return LETTERS;
            }
            return b >= '0' && b <= '9' ? DIGITS : SIGN;
        }

        private boolean isSign(char sign) {
            return token == SIGN && bytes[start] == sign;
        }

        /** The op of the TOKEN, the first sign's being told. */
        private int signIn(String signs, int firstOp) {
            for (int i = 0; i < signs.length(); i++) {
                if (isSign(signs.charAt(i))) {
                    return firstOp + i;
                }
            }
            return NONE;
        }

        private boolean isWord(String word) {
            return indexIn(word) == 0;
        }

        /** Which of the words, a blank between each two, the TOKEN is. */
        private int indexIn(String words) {
            int index = 0;
            int same = 0;
            int from = 0;
            for (int i = 0; i <= words.length() && token == LETTERS; i++) {
                if (i == words.length() || words.charAt(i) == ' ') {
                    if (same == stop - start && same == i - from) {
                        return index;
                    }
                    index++;
                    same = 0;
                    from = i + 1;
                } else if (same == i - from && start + same < stop
                        && words.charAt(i) == bytes[start + same]) {
                    same++;
                }
            }
            return NONE;
        }
    }

    /** Runs ORDERS wholly or not at all. */
    private static final class Runner {
        int stoppedAt = NONE;
        private final Church church;
        private final Trail trail;
        private final Sums sums;
        private final Nave naveAhead = new Nave();
        private final Trail trailAhead = new Trail();
        private final int[] values = new int[VALUES];
        private int done = 0;
        private int latest = NONE;

        Runner(Church church, Trail trail, Sums sums) {
            this.church = church;
            this.trail = trail;
            this.sums = sums;
        }

        void begin() {
            stoppedAt = NONE;
            done = 0;
            latest = NONE;
            naveAhead.copyFrom(church.now);
            trailAhead.copyFrom(trail);
        }

        int finish() {
            if (stoppedAt == NONE) {
                return done;
            }
            church.now.copyFrom(naveAhead);
            trail.copyFrom(trailAhead);
            return CAN_NOT_BE;
        }

        void runClause(Text text, int clause) {
            int kind = text.kindOf(clause);
            for (int time = 0; time < text.oftenOf(clause) && stoppedAt == NONE; time++) {
                fillValues(text.asksBlack);
                if (sums.worth(text, clause, Text.TEST, values) != 1) {
                    continue;
                }
                int first = sums.worth(text, clause, Text.FIRST, values);
                int second = sums.worth(text, clause, Text.SECOND, values);
                trail.hold(church.now);
                int told = CAN_NOT_BE;
                if (first != BROKEN && second != BROKEN) {
                    switch (kind) {
                        case PREACH:
                            told = church.preachWord(first);
                            break;
                        case SCRAPE:
                            told = church.scrapeOne(first, second);
                            break;
                        case WALK:
                            told = church.walkTo(first);
                            break;
                        case SIT:
                            told = church.seatAt(first, second);
                            break;
                        default:
                            told = church.passHour();
                            break;
                    }
                }
                if (told < 0) {
                    stoppedAt = clause;
                } else {
                    trail.keep(kind);
                    done++;
                    latest = kind == PREACH ? told : latest;
                }
            }
        }

        /** In the order of the words of ORDERS, the HUES by PANES. */
        private void fillValues(boolean asksBlack) {
            values[0] = church.now.hour;
            values[1] = done;
            values[2] = latest;
            values[3] = church.now.pulpit;
            // Dear to know, so only where it is asked.
            values[ORDER_BLACK] = asksBlack ? church.blackPanes() : 0;
            System.arraycopy(church.now.hues, 0, values, VALUE_HUES, HUES * PANES);
            for (int listener = 0; listener < LISTENERS; listener++) {
                values[VALUE_SPIRITS + listener] =
                        church.isListener(listener) ? church.now.spirits[listener] : -1;
            }
        }
    }

    /** What is found out on paper: nothing here changes the church. */
    private static final class Paper {
        private static final int ALL_SETS = 1 << WORDS;
        private static final int ALL_PANES = 1 << PANES;
        private static final int AMOUNTS = MOST_OF_A_HUE + 1;
        private static final int UNREACHED = 1000000;

        final int[] sets = new int[ALL_SETS];
        int mostAlike = 0;
        int mostStain = 0;
        private final Church church;
        private final Church copy;
        private final int[] stains = new int[WORDS * PANES];
        private final int[] wanted = new int[HUES];
        private final int[] fewest = new int[HUES * AMOUNTS];
        private final int[] amounts = new int[ALL_SETS];
        private final int[] alike = new int[WORDS * MOST_STAIN + 1];
        private final int[] does = new int[LISTENERS * SEATS];
        private final int[] mostFrom = new int[ALL_SETS];
        private final int[] unlike = new int[WORDS * WORDS];
        private final int[] blackAt = new int[PANES];
        private final int[] blackAhead = new int[PANES];
        private final long[] chances = new long[MOST_VISITORS + 2];
        private int setCount = 0;
        private int pairs = 0;
        private int destination = 0;

        Paper(Church church, Sums sums) {
            this.church = church;
            copy = new Church(sums);
        }

        private int stain(int word, int pane) {
            return stains[word * PANES + pane];
        }

        private void fillStains(int pane) {
            for (int word = 0; word < church.words; word++) {
                stains[word * PANES + pane] = church.stainOf(word, pane);
            }
        }

        private void fillAllStains() {
            for (int pane = 0; pane < PANES; pane++) {
                fillStains(pane);
            }
        }

        /** How many WORDS the SERMON has; NONE where there is none. */
        int prepareSermon(int pane, int red, int blue, int green) {
            wanted[0] = red - church.now.hueOf(pane, 0);
            wanted[1] = blue - church.now.hueOf(pane, 1);
            wanted[2] = green - church.now.hueOf(pane, 2);
            for (int word = 0; word < church.words; word++) {
                // In the first PANE's place: a SERMON is for one PANE alone.
                stains[word * PANES] = church.isBarred(word) ? 0 : church.stainOf(word, pane);
            }
            int all = 0;
            for (int hue = 0; hue < HUES; hue++) {
                if (wanted[hue] < 0) {
                    return NONE;
                }
                all += fewestFor(hue);
            }
            return all >= UNREACHED ? NONE : all;
        }

        private int fewestFor(int hue) {
            int from = hue * AMOUNTS;
            fewest[from] = 0;
            for (int much = 1; much <= wanted[hue]; much++) {
                int least = UNREACHED;
                for (int word = 0; word < church.words; word++) {
                    int stain = stains[word * PANES];
                    if (church.wordHue[word] == hue && stain > 0 && stain <= much) {
                        least = Math.min(least, fewest[from + much - stain] + 1);
                    }
                }
                fewest[from + much] = least;
            }
            return fewest[from + wanted[hue]];
        }

        /** Behind prepareSermon(), once: it uses up what is wanted. */
        int wordOfSermon(int i) {
            int latest = NONE;
            for (int at = 0; at <= i; at++) {
                latest = lowestThatHelps();
                if (latest == NONE) {
                    return NONE;
                }
                wanted[church.wordHue[latest]] -= stains[latest * PANES];
            }
            return latest;
        }

        /**
         * The lowest WORD of any shortest row for what is still wanted. It is never
         * below the one ahead of it: that would have been taken there.
         */
        private int lowestThatHelps() {
            for (int word = 0; word < church.words; word++) {
                int hue = church.wordHue[word];
                int stain = stains[word * PANES];
                int at = hue * AMOUNTS + wanted[hue];
                if (stain > 0 && stain <= wanted[hue] && fewest[at - stain] == fewest[at] - 1) {
                    return word;
                }
            }
            return NONE;
        }

        /** The sets of PREACHED, rising: how many. */
        int findSets() {
            for (int told = 0; told < church.tolds; told++) {
                fillStains(church.toldParts[told * TOLD_PARTS]);
            }
            setCount = 0;
            for (int set = 0; set < 1 << church.words; set++) {
                if (fits(set)) {
                    sets[setCount] = set;
                    setCount++;
                }
            }
            return setCount;
        }

        private boolean fits(int set) {
            for (int told = 0; told < church.tolds; told++) {
                int from = told * TOLD_PARTS;
                int pane = church.toldParts[from];
                int left = church.toldParts[from + 2];
                for (int word = 0; word < church.words; word++) {
                    if ((set >> word & 1) == 1 && church.wordHue[word] == church.toldParts[from + 1]) {
                        left -= stain(word, pane);
                    }
                }
                if (left != 0) {
                    return false;
                }
            }
            return true;
        }

        /** Behind findSets(); leaves in mostAlike how many sets are left at most. */
        int findPaneToLookAt() {
            int best = NONE;
            for (int pane = 0; pane < PANES; pane++) {
                fillStains(pane);
                int most = mostAlikeAt(pane);
                if (best == NONE || most < mostAlike) {
                    best = pane;
                    mostAlike = most;
                }
            }
            return best;
        }

        private int mostAlikeAt(int pane) {
            amounts[0] = 0;
            for (int word = 0; word < church.words; word++) {
                int half = 1 << word;
                for (int set = half; set < 2 * half; set++) {
                    amounts[set] = amounts[set - half] + stain(word, pane);
                }
            }
            Arrays.fill(alike, 0);
            int most = 0;
            for (int i = 0; i < setCount; i++) {
                int amount = amounts[sets[i]];
                alike[amount]++;
                most = Math.max(most, alike[amount]);
            }
            return most;
        }

        /** What light DOES to all on the best SEATS. */
        int prepareSeats() {
            for (int seat = 0; seat < SEATS; seat++) {
                church.shine(seat);
                for (int listener = 0; listener < church.listeners; listener++) {
                    does[listener * SEATS + seat] = church.doesTo(listener);
                }
            }
            // By the SEATS that are taken: as many LISTENERS, from 0 on, have theirs.
            for (int taken = ALL_SETS - 1; taken >= 0; taken--) {
                int listener = Integer.bitCount(taken);
                mostFrom[taken] = listener < church.listeners ? mostFor(listener, taken) : 0;
            }
            return mostFrom[0];
        }

        private int mostFor(int listener, int taken) {
            int most = -UNREACHED;
            for (int seat = 0; seat < SEATS; seat++) {
                if ((taken >> seat & 1) == 0) {
                    most = Math.max(most, does[listener * SEATS + seat] + mostFrom[taken | 1 << seat]);
                }
            }
            return most;
        }

        /** Behind prepareSeats(). */
        int seatOf(int wantedListener) {
            int taken = 0;
            int latest = NONE;
            for (int listener = 0; listener <= wantedListener; listener++) {
                latest = lowestBestSeat(listener, taken);
                if (latest == NONE) {
                    return NOTHING;
                }
                taken |= 1 << latest;
            }
            return latest;
        }

        private int lowestBestSeat(int listener, int taken) {
            for (int seat = 0; seat < SEATS; seat++) {
                if ((taken >> seat & 1) == 0
                        && does[listener * SEATS + seat] + mostFrom[taken | 1 << seat] == mostFrom[taken]) {
                    return seat;
                }
            }
            return NONE;
        }

        int scrapingsFor(int seat) {
            int all = 0;
            int upper = church.upperPaneOf(seat);
            for (int pane = upper; pane <= upper + SIDE; pane += SIDE) {
                int from = church.blackFrom(pane);
                if (from == 0) {
                    // BLACK even with nothing left to scrape.
                    return NONE;
                }
                all += Math.max(0, church.now.allHuesOf(pane) - from + 1);
            }
            return all;
        }

        /** The PANES as bits, NONE where not even all are enough. */
        int fewestPanesApart() {
            fillAllStains();
            fillUnlike();
            if (!tellsApart(ALL_PANES - 1)) {
                return NONE;
            }
            for (int size = 0; size <= PANES; size++) {
                int set = (1 << size) - 1;
                for (int tries = 0; tries < ALL_PANES && set < ALL_PANES; tries++) {
                    if (tellsApart(set)) {
                        return set;
                    }
                    set = nextOfSize(set);
                }
            }
            return NONE;
        }

        private void fillUnlike() {
            pairs = 0;
            for (int one = 0; one < church.words; one++) {
                for (int other = 0; other < one; other++) {
                    int panes = 0;
                    for (int pane = 0; pane < PANES; pane++) {
                        panes |= isUnlike(one, other, pane) ? 1 << pane : 0;
                    }
                    unlike[pairs] = panes;
                    pairs++;
                }
            }
        }

        private boolean isUnlike(int one, int other, int pane) {
            int much = stain(one, pane);
            return much != stain(other, pane)
                    || much != 0 && church.wordHue[one] != church.wordHue[other];
        }

        private boolean tellsApart(int panes) {
            for (int pair = 0; pair < pairs; pair++) {
                if ((unlike[pair] & panes) == 0) {
                    return false;
                }
            }
            return true;
        }

        /** The next higher set of as many PANES: the lowest run of bits carries one up. */
        private static int nextOfSize(int set) {
            int lowest = set & -set;
            if (lowest == 0) {
                return ALL_PANES;
            }
            int carried = set + lowest;
            return carried | (set ^ carried) / lowest >> 2;
        }

        /** Leaves in mostStain how much all STAIN the PANE there. */
        int bestPlaceFor(int pane) {
            copy.copyFrom(church);
            int best = NONE;
            for (int place = 0; place < PANES; place++) {
                copy.now.pulpit = place;
                int all = 0;
                for (int word = 0; word < copy.words; word++) {
                    all += copy.isBarred(word) ? 0 : copy.stainOf(word, pane);
                }
                if (best == NONE || all > mostStain) {
                    best = place;
                    mostStain = all;
                }
            }
            return best;
        }

        /** How many BLACK ones are on the WAY. */
        int prepareWay(int place) {
            destination = place;
            for (int pane = 0; pane < PANES; pane++) {
                blackAt[pane] = pane != place && church.isBlack(pane) ? 1 : 0;
            }
            int steps = distance(church.now.pulpit, place);
            Arrays.fill(blackAhead, UNREACHED);
            blackAhead[place] = 0;
            for (int left = 1; left <= steps; left++) {
                for (int from = 0; from < PANES; from++) {
                    if (distance(from, place) == left) {
                        blackAhead[from] = fewestBlackAhead(from);
                    }
                }
            }
            return blackAhead[church.now.pulpit];
        }

        private int fewestBlackAhead(int from) {
            int least = UNREACHED;
            for (int to = 0; to < PANES; to++) {
                if (isStepOn(from, to)) {
                    least = Math.min(least, blackAhead[to] + blackAt[to]);
                }
            }
            return least;
        }

        private boolean isStepOn(int from, int to) {
            return distance(from, to) == 1
                    && distance(to, destination) == distance(from, destination) - 1;
        }

        /** Behind prepareWay(). */
        int placeOfWay(int i) {
            int here = church.now.pulpit;
            for (int step = 0; step <= i; step++) {
                here = nextOfWay(here);
            }
            return here;
        }

        private int nextOfWay(int from) {
            for (int to = 0; to < PANES; to++) {
                if (isStepOn(from, to) && blackAhead[to] + blackAt[to] == blackAhead[from]) {
                    return to;
                }
            }
            return from;
        }

        int spiritLater(int listener, int hours) {
            copy.copyFrom(church);
            for (int i = 0; i < hours; i++) {
                copy.shine(copy.now.seats[listener]);
                copy.now.spirits[listener] = copy.spiritAfter(listener);
                copy.now.hour++;
            }
            return copy.now.spirits[listener];
        }

        int blackBy(int law) {
            copy.copyFrom(church);
            copy.inForce = law;
            return copy.blackPanes();
        }

        long chanceOfFewer(int k, int visitors) {
            Arrays.fill(chances, 0L);
            chances[0] = SURE;
            for (int visitor = 0; visitor < visitors; visitor++) {
                // From above, so that what a part hands up was not yet changed.
                for (int came = visitor; came >= 0; came--) {
                    long part = chances[came];
                    chances[came + 1] += part * church.comes / 10;
                    chances[came] = part * (MOST_COMES - church.comes) / 10;
                }
            }
            long all = 0;
            for (int came = 0; came < k; came++) {
                all += chances[came];
            }
            return all;
        }
    }
}
