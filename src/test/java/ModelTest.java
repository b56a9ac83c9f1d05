import java.math.BigInteger;
import java.nio.charset.StandardCharsets;
import java.util.ArrayDeque;
import java.util.ArrayList;
import java.util.Arrays;
import java.util.Collections;
import java.util.HashMap;
import java.util.LinkedHashMap;
import java.util.List;
import java.util.Map;
import java.util.Random;
import java.util.TreeMap;

/**
 * Runs of calls drawn by fixed seeds, each answer held against a second reading of the
 * document: a model that tries everything out, by other ways than the class takes.
 */
public final class ModelTest {
    private static final int RUNS = 4000;
    /** "An object is used for at most 512 calls": what it answers to more is free. */
    private static final int CALLS = 512;
    /** A draw's calls at most: a TAPE of 400 bytes by twenties, and what is asked about it. */
    private static final int CALLS_OF_A_DRAW = 26;
    /** The calls of allAgrees(). */
    private static final int CALLS_OF_ALL = 16 * 6 + 6 * 3 + 17 + 8 * 19 + 1;

    // ---- the languages, as trees ----

    private static final class Broken extends Exception {
        private static final long serialVersionUID = 1L;
    }

    private static final class Token {
        final String text;
        final int place;

        Token(String text, int place) {
            this.text = text;
            this.place = place;
        }
    }

    private static final class Node {
        final String op;
        final List<Node> kids = new ArrayList<>();
        int value;

        Node(String op, Node... kids) {
            this.op = op;
            this.kids.addAll(Arrays.asList(kids));
        }
    }

    private static final class Clause {
        String kind;
        Node first;
        Node second;
        Node test;
        int times = 1;
    }

    /** Fails by an exception; the place is that of the furthest token that was looked at in vain. */
    private static final class Fault extends Exception {
        private static final long serialVersionUID = 1L;
        final int place;

        Fault(int place) {
            this.place = place;
        }
    }

    private static final class Parser {
        final List<Token> tokens = new ArrayList<>();
        final boolean orders;
        int at = 0;
        int parts = 0;
        final ArrayDeque<String> open = new ArrayDeque<>();

        Parser(String text, boolean orders) {
            this.orders = orders;
            java.util.regex.Matcher m = java.util.regex.Pattern.compile("[a-z]+|[0-9]+|[^ ]", java.util.regex.Pattern.DOTALL).matcher(text);
            while (m.find()) {
                tokens.add(new Token(m.group(), m.start()));
            }
            tokens.add(new Token("", text.length()));
        }

        String peek() {
            return tokens.get(at).text;
        }

        Fault fault() {
            return new Fault(tokens.get(at).place);
        }

        boolean takes(String text) {
            if (peek().equals(text)) {
                at++;
                return true;
            }
            return false;
        }

        void wants(String text) throws Fault {
            if (!takes(text)) {
                throw fault();
            }
        }

        String one(String... words) throws Fault {
            for (String word : words) {
                if (takes(word)) {
                    return word;
                }
            }
            throw fault();
        }

        boolean isNumber() {
            return peek().matches("[0-9]+");
        }

        int number(int lowest, int highest) throws Fault {
            if (!isNumber()) {
                throw fault();
            }
            BigInteger n = new BigInteger(peek());
            if (n.compareTo(BigInteger.valueOf(lowest)) < 0 || n.compareTo(BigInteger.valueOf(highest)) > 0) {
                throw fault();
            }
            at++;
            return n.intValue();
        }

        List<Clause> text() throws Fault {
            List<Clause> all = new ArrayList<>();
            all.add(clause());
            while (!peek().isEmpty()) {
                wants(";");
                if (all.size() == 12) {
                    throw fault();
                }
                all.add(clause());
            }
            return all;
        }

        Clause clause() throws Fault {
            Clause c = new Clause();
            if (orders) {
                c.kind = one("preach", "scrape", "walk", "sit", "pass");
                if (!c.kind.equals("pass")) {
                    c.first = sum();
                }
                if (c.kind.equals("scrape")) {
                    wants("of");
                    c.second = sum();
                }
                if (c.kind.equals("sit")) {
                    wants("at");
                    c.second = sum();
                }
                if (takes("times")) {
                    c.times = number(1, 20);
                }
            } else {
                c.kind = one("stains", "does", "blacks", "bars");
                if (!c.kind.equals("bars")) {
                    c.first = sum();
                }
            }
            if (takes("if")) {
                c.test = test();
            }
            return c;
        }

        Node test() throws Fault {
            Node left = both();
            while (takes("or")) {
                left = new Node("or", left, both());
            }
            return left;
        }

        Node both() throws Fault {
            Node left = plain();
            while (takes("and")) {
                left = new Node("and", left, plain());
            }
            return left;
        }

        Node plain() throws Fault {
            if (takes("not")) {
                return new Node("not", plain());
            }
            if (peek().equals("(")) {
                open("(");
                Node inner = test();
                wants(")");
                open.pop();
                return inner;
            }
            Node left = sum();
            String op = one("<", ">", "=");
            return new Node(op, left, sum());
        }

        void open(String bracket) throws Fault {
            if (open.size() == 8) {
                throw fault();
            }
            open.push(bracket);
            wants(bracket);
        }

        Node sum() throws Fault {
            Node left = term();
            while (peek().equals("+") || peek().equals("-")) {
                String op = one("+", "-");
                left = new Node(op, left, term());
            }
            return left;
        }

        Node term() throws Fault {
            Node left = part();
            while (peek().equals("*") || peek().equals("/") || peek().equals("%")) {
                String op = one("*", "/", "%");
                left = new Node(op, left, part());
            }
            return left;
        }

        Node part() throws Fault {
            if (peek().equals("[")) {
                open("[");
                Node inner = sum();
                wants("]");
                open.pop();
                return inner;
            }
            if (parts == 50) {
                throw fault();
            }
            parts++;
            Node leaf;
            if (isNumber()) {
                leaf = new Node("number");
                leaf.value = number(0, 1000);
            } else if (orders) {
                String word = one("hour", "done", "latest", "pulpit", "black", "red", "blue", "green", "spirit");
                leaf = new Node(word);
                if (Arrays.asList("red", "blue", "green").contains(word)) {
                    leaf.value = number(0, 15);
                } else if (word.equals("spirit")) {
                    leaf.value = number(0, 5);
                }
            } else {
                leaf = new Node(one("word", "hue", "force", "away", "row", "column", "red", "blue", "green", "spirit", "hour", "mood"));
            }
            return leaf;
        }
    }

    private interface Asked {
        int of(String word, int k);
    }

    private static BigInteger sum(Node node, Asked asked) throws Broken {
        BigInteger worth;
        if (node.op.equals("number")) {
            worth = BigInteger.valueOf(node.value);
        } else if (node.kids.isEmpty()) {
            worth = BigInteger.valueOf(asked.of(node.op, node.value));
        } else {
            BigInteger left = sum(node.kids.get(0), asked);
            BigInteger right = sum(node.kids.get(1), asked);
            if ("/%".contains(node.op) && right.signum() == 0) {
                throw new Broken();
            }
            switch (node.op) {
                case "+":
                    worth = left.add(right);
                    break;
                case "-":
                    worth = left.subtract(right);
                    break;
                case "*":
                    worth = left.multiply(right);
                    break;
                case "/":
                    worth = left.divide(right);
                    break;
                default:
                    worth = left.remainder(right);
                    break;
            }
        }
        if (worth.abs().compareTo(BigInteger.valueOf(1000000000)) > 0) {
            throw new Broken();
        }
        return worth;
    }

    private static boolean so(Node node, Asked asked) throws Broken {
        if (node == null) {
            return true;
        }
        switch (node.op) {
            case "or":
                return so(node.kids.get(0), asked) || so(node.kids.get(1), asked);
            case "and":
                return so(node.kids.get(0), asked) && so(node.kids.get(1), asked);
            case "not":
                return !so(node.kids.get(0), asked);
            default:
                int order = sum(node.kids.get(0), asked).compareTo(sum(node.kids.get(1), asked));
                return node.op.equals("<") ? order < 0 : node.op.equals(">") ? order > 0 : order == 0;
        }
    }

    // ---- the model ----

    private static final class State {
        int[][] hues = new int[16][3];
        int pulpit = 0;
        List<int[]> words = new ArrayList<>();
        List<int[]> listeners = new ArrayList<>();
        List<int[]> told = new ArrayList<>();
        int[] terms = {0, 3, 0};
        List<List<Clause>> laws = new ArrayList<>();
        int force = -1;

        State copy() {
            State s = new State();
            for (int p = 0; p < 16; p++) {
                s.hues[p] = hues[p].clone();
            }
            s.pulpit = pulpit;
            for (int[] w : words) {
                s.words.add(w.clone());
            }
            for (int[] l : listeners) {
                s.listeners.add(l.clone());
            }
            for (int[] t : told) {
                s.told.add(t.clone());
            }
            s.terms = terms.clone();
            s.laws.addAll(laws);
            s.force = force;
            return s;
        }

        Integer told(String kind, Asked asked) {
            Integer last = null;
            if (force >= 0) {
                for (Clause c : laws.get(force)) {
                    if (c.kind.equals(kind)) {
                        try {
                            if (so(c.test, asked)) {
                                last = c.first == null ? Integer.valueOf(1) : Integer.valueOf(sum(c.first, asked).intValue());
                            }
                        } catch (Broken b) {
                            // It does not hold.
                        }
                    }
                }
            }
            return last;
        }

        int away(int p) {
            return Math.abs(p / 4 - pulpit / 4) + Math.abs(p % 4 - pulpit % 4);
        }

        int paneWord(String word, int p) {
            switch (word) {
                case "away":
                    return away(p);
                case "row":
                    return p / 4;
                case "column":
                    return p % 4;
                case "red":
                    return hues[p][0];
                case "blue":
                    return hues[p][1];
                case "green":
                    return hues[p][2];
                case "hour":
                    return terms[0];
                case "mood":
                    return terms[2];
                default:
                    return -1;
            }
        }

        int wordWord(String word, int w) {
            switch (word) {
                case "word":
                    return w;
                case "hue":
                    return words.get(w)[0];
                case "force":
                    return words.get(w)[1];
                case "hour":
                    return terms[0];
                case "mood":
                    return terms[2];
                default:
                    return -1;
            }
        }

        int stain(int w, int p) {
            Integer t = told("stains", (word, k) -> Arrays.asList("word", "hue", "force").contains(word) ? wordWord(word, w) : paneWord(word, p));
            int all = t == null ? words.get(w)[1] - away(p) : t;
            return Math.min(20, Math.max(0, all));
        }

        boolean barred(int w) {
            return told("bars", (word, k) -> wordWord(word, w)) != null;
        }

        int from(int p) {
            Integer t = told("blacks", (word, k) -> paneWord(word, p));
            return t == null ? 60 : Math.min(300, Math.max(0, t));
        }

        int together(int p) {
            return hues[p][0] + hues[p][1] + hues[p][2];
        }

        boolean black(int p) {
            return together(p) >= from(p);
        }

        int blacks() {
            int n = 0;
            for (int p = 0; p < 16; p++) {
                n += black(p) ? 1 : 0;
            }
            return n;
        }

        List<Integer> panesOf(int seat) {
            List<Integer> all = new ArrayList<>();
            for (int p = 0; p < 16; p++) {
                if (p % 4 == (seat + terms[0]) % 4 && (p / 4 < 2) == (seat < 4)) {
                    all.add(p);
                }
            }
            return all;
        }

        int light(int seat, int hue) {
            int all = 0;
            for (int p : panesOf(seat)) {
                all += black(p) ? 0 : hues[p][hue];
            }
            return all;
        }

        int does(int seat, int spirit) {
            int red = light(seat, 0);
            int blue = light(seat, 1);
            int green = light(seat, 2);
            Integer t = told("does", (word, k) -> {
                switch (word) {
                    case "red":
                        return red;
                    case "blue":
                        return blue;
                    case "green":
                        return green;
                    case "spirit":
                        return spirit;
                    case "hour":
                        return terms[0];
                    case "mood":
                        return terms[2];
                    default:
                        return -1;
                }
            });
            int all = t == null ? (blue - red) / 10 : t;
            return Math.min(9, Math.max(-9, all));
        }

        int preach(int w) {
            if (w < 0 || w >= words.size()) {
                return -2;
            }
            if (barred(w)) {
                return -3;
            }
            int[] more = new int[16];
            for (int p = 0; p < 16; p++) {
                more[p] = stain(w, p);
            }
            int got = 0;
            int hue = words.get(w)[0];
            for (int p = 0; p < 16; p++) {
                int before = hues[p][hue];
                hues[p][hue] = Math.min(99, before + more[p]);
                got += hues[p][hue] - before;
            }
            return got;
        }

        int scrape(int p, int h) {
            if (p < 0 || p > 15 || h < 0 || h > 2) {
                return -1;
            }
            return hues[p][h] == 0 ? -3 : --hues[p][h];
        }

        int walk(int p) {
            if (p < 0 || p > 15 || p == pulpit) {
                return -1;
            }
            int before = pulpit;
            pulpit = p;
            return before;
        }

        boolean taken(int seat) {
            for (int[] l : listeners) {
                if (l[0] == seat) {
                    return true;
                }
            }
            return false;
        }

        int sit(int l, int seat) {
            if (seat < 0 || seat > 7) {
                return -1;
            }
            if (l < 0 || l >= listeners.size()) {
                return -2;
            }
            if (taken(seat)) {
                return -3;
            }
            int before = listeners.get(l)[0];
            listeners.get(l)[0] = seat;
            return before;
        }

        void hour() {
            int[] does = new int[listeners.size()];
            for (int l = 0; l < does.length; l++) {
                does[l] = does(listeners.get(l)[0], listeners.get(l)[1]);
            }
            for (int l = 0; l < does.length; l++) {
                listeners.get(l)[1] = Math.min(99, Math.max(0, listeners.get(l)[1] + does[l]));
            }
            terms[0]++;
        }

        int pass() {
            if (terms[0] == 999) {
                return -3;
            }
            hour();
            return terms[0];
        }

        int step(int kind, int a, int b) {
            switch (kind) {
                case 0:
                    return preach(a);
                case 1:
                    return scrape(a, b);
                case 2:
                    return walk(a);
                case 3:
                    return sit(a, b);
                default:
                    return pass();
            }
        }
    }

    private static final class Model {
        State now = new State();
        StringBuilder tape = new StringBuilder();
        int fault = -1;
        int stopped = -1;
        int leads = 0;
        List<State> undo = new ArrayList<>();
        List<Integer> kinds = new ArrayList<>();
        State[] images = new State[2];
        State years = null;
        int[] refusals = new int[7];
        int status = 0;

        int refused(int by) {
            status = by;
            refusals[-by]++;
            return by;
        }

        int fine(int answer) {
            status = 0;
            return answer;
        }

        int changed(int answer) {
            undo.clear();
            kinds.clear();
            return fine(answer);
        }

        static boolean out(int v, int lo, int hi) {
            return v < lo || v > hi;
        }

        boolean stepped(int kind, State before) {
            undo.add(before);
            kinds.add(kind);
            if (undo.size() > 16) {
                undo.remove(0);
                kinds.remove(0);
            }
            return true;
        }

        int step(int kind, int a, int b) {
            State before = now.copy();
            int told = now.step(kind, a, b);
            if (told < 0) {
                return refused(told);
            }
            stepped(kind, before);
            return fine(told);
        }

        int undo() {
            if (undo.isEmpty()) {
                return refused(-3);
            }
            State before = undo.remove(undo.size() - 1);
            now.hues = before.hues;
            now.pulpit = before.pulpit;
            now.listeners = before.listeners;
            now.terms = before.terms;
            return fine(kinds.remove(kinds.size() - 1));
        }

        int word(int h, int f) {
            if (out(h, 0, 2) || out(f, 1, 9)) {
                return refused(-1);
            }
            if (now.words.size() == 8) {
                return refused(-5);
            }
            now.words.add(new int[] {h, f});
            return changed(now.words.size() - 1);
        }

        int listener(int seat, int spirit) {
            if (out(seat, 0, 7) || out(spirit, 0, 99)) {
                return refused(-1);
            }
            if (now.taken(seat)) {
                return refused(-3);
            }
            if (now.listeners.size() == 6) {
                return refused(-5);
            }
            now.listeners.add(new int[] {seat, spirit});
            return changed(now.listeners.size() - 1);
        }

        int terms(int what, int v) {
            int[] most = {999, 10, 9};
            if (out(what, 0, 2) || out(v, 0, most[what])) {
                return refused(-1);
            }
            int before = now.terms[what];
            now.terms[what] = v;
            return changed(before);
        }

        int feed(int... numbers) {
            if (tape.length() + 20 > 400) {
                return -1;
            }
            for (int n : numbers) {
                for (byte b : BigInteger.valueOf(n & 0xffffffffL).add(BigInteger.ONE.shiftLeft(32)).toByteArray()) {
                    tape.append((char) (b & 255));
                }
                tape.deleteCharAt(tape.length() - 5);
            }
            return tape.length();
        }

        String take() {
            String text = tape.toString();
            tape.setLength(0);
            return text;
        }

        int row() {
            if (tape.length() == 0) {
                return refused(-6);
            }
            String text = take();
            leads = 0;
            int panes = 0;
            for (String rest = text; !rest.isEmpty(); rest = rest.substring(Math.min(4, rest.length()))) {
                if (rest.length() < 4 || rest.charAt(0) > 15 || rest.charAt(1) > 99 || rest.charAt(2) > 99 || rest.charAt(3) > 99) {
                    leads++;
                } else {
                    for (int h = 0; h < 3; h++) {
                        now.hues[rest.charAt(0)][h] = rest.charAt(1 + h);
                    }
                    panes++;
                }
            }
            return changed(panes);
        }

        List<Clause> read(boolean orders) {
            try {
                fault = -1;
                return new Parser(take(), orders).text();
            } catch (Fault f) {
                fault = f.place;
                return null;
            }
        }

        int law() {
            if (now.laws.size() == 6) {
                take();
                return refused(-5);
            }
            List<Clause> law = read(false);
            if (law == null) {
                return refused(-6);
            }
            now.laws.add(law);
            return fine(now.laws.size() - 1);
        }

        int orders() {
            stopped = -1;
            List<Clause> all = read(true);
            if (all == null) {
                return refused(-6);
            }
            State ahead = now.copy();
            List<State> undoAhead = new ArrayList<>();
            for (State s : undo) {
                undoAhead.add(s.copy());
            }
            List<Integer> kindsAhead = new ArrayList<>(kinds);
            int[] run = {0, -1};
            for (int c = 0; c < all.size(); c++) {
                for (int t = 0; t < all.get(c).times; t++) {
                    if (!once(all.get(c), run)) {
                        stopped = c;
                        now = ahead;
                        undo = undoAhead;
                        kinds = kindsAhead;
                        return refused(-3);
                    }
                }
            }
            return fine(run[0]);
        }

        boolean once(Clause c, int[] run) {
            Asked asked = (word, k) -> {
                switch (word) {
                    case "hour":
                        return now.terms[0];
                    case "done":
                        return run[0];
                    case "latest":
                        return run[1];
                    case "pulpit":
                        return now.pulpit;
                    case "black":
                        return now.blacks();
                    case "spirit":
                        return k < now.listeners.size() ? now.listeners.get(k)[1] : -1;
                    default:
                        return now.hues[k][Arrays.asList("red", "blue", "green").indexOf(word)];
                }
            };
            try {
                if (!so(c.test, asked)) {
                    return true;
                }
            } catch (Broken b) {
                return true;
            }
            int first = 0;
            int second = 0;
            try {
                first = c.first == null ? 0 : sum(c.first, asked).intValue();
                second = c.second == null ? 0 : sum(c.second, asked).intValue();
            } catch (Broken b) {
                return false;
            }
            int kind = Arrays.asList("preach", "scrape", "walk", "sit", "pass").indexOf(c.kind);
            State before = now.copy();
            int told = now.step(kind, first, second);
            if (told < 0) {
                return false;
            }
            run[0]++;
            run[1] = kind == 0 ? told : run[1];
            return stepped(kind, before);
        }

        int force(int law) {
            if (law != -1 && out(law, 0, now.laws.size() - 1)) {
                return refused(-2);
            }
            int before = now.force;
            now.force = law;
            return fine(before);
        }

        int of(int w, int what) {
            if (out(w, 0, now.words.size() - 1) || out(what, 0, 18)) {
                return -1;
            }
            return what < 2 ? now.words.get(w)[what] : what == 2 ? (now.barred(w) ? 1 : 0) : now.stain(w, what - 3);
        }

        int at(int p, int what) {
            if (out(p, 0, 15) || out(what, 0, 5)) {
                return -1;
            }
            return what < 3 ? now.hues[p][what] : what == 3 ? now.from(p) : what == 4 ? (now.black(p) ? 1 : 0) : now.away(p);
        }

        int has(int l, int what) {
            if (out(l, 0, now.listeners.size() - 1) || out(what, 0, 2)) {
                return -1000;
            }
            int[] x = now.listeners.get(l);
            return what < 2 ? x[what] : now.does(x[0], x[1]);
        }

        /** Forwards through all amounts, level by level; rows are kept as sorted lists. */
        int sermon(int p, int r, int b, int g, int i) {
            int[] want = {r, b, g};
            if (out(p, 0, 15) || out(r, 0, 99) || out(b, 0, 99) || out(g, 0, 99)) {
                return -1;
            }
            List<Integer> row = new ArrayList<>();
            for (int h = 0; h < 3; h++) {
                List<Integer> part = coins(p, h, want[h] - now.hues[p][h]);
                if (part == null) {
                    return -1;
                }
                row.addAll(part);
            }
            Collections.sort(row);
            return i == -1 ? row.size() : out(i, 0, row.size() - 1) ? -1 : row.get(i);
        }

        List<Integer> coins(int p, int h, int need) {
            if (need < 0) {
                return null;
            }
            Map<Integer, List<Integer>> level = new HashMap<>();
            level.put(0, new ArrayList<>());
            for (int n = 0; n <= 99; n++) {
                if (level.containsKey(need)) {
                    return level.get(need);
                }
                Map<Integer, List<Integer>> next = new HashMap<>();
                for (Map.Entry<Integer, List<Integer>> e : level.entrySet()) {
                    for (int w = 0; w < now.words.size(); w++) {
                        int s = now.words.get(w)[0] == h && !now.barred(w) ? now.stain(w, p) : 0;
                        if (s > 0 && e.getKey() + s <= need) {
                            List<Integer> row = new ArrayList<>(e.getValue());
                            row.add(w);
                            Collections.sort(row);
                            List<Integer> old = next.get(e.getKey() + s);
                            if (old == null || before(row, old)) {
                                next.put(e.getKey() + s, row);
                            }
                        }
                    }
                }
                level = next;
            }
            return null;
        }

        static boolean before(List<Integer> a, List<Integer> b) {
            for (int i = 0; i < a.size(); i++) {
                if (!a.get(i).equals(b.get(i))) {
                    return a.get(i) < b.get(i);
                }
            }
            return false;
        }

        int told(int p, int h, int much) {
            if (out(p, 0, 15) || out(h, 0, 2) || out(much, 0, 99)) {
                return refused(-1);
            }
            if (now.told.size() == 8) {
                return refused(-5);
            }
            now.told.add(new int[] {p, h, much});
            return fine(now.told.size());
        }

        int forget() {
            int n = now.told.size();
            now.told.clear();
            return n;
        }

        List<Integer> sets() {
            List<Integer> all = new ArrayList<>();
            int[][] stains = new int[now.words.size()][16];
            for (int[] s : stains) {
                Arrays.fill(s, -1);
            }
            for (int set = 0; set < 1 << now.words.size(); set++) {
                boolean fits = true;
                for (int[] t : now.told) {
                    int got = 0;
                    for (int w = 0; w < now.words.size(); w++) {
                        if ((set & 1 << w) != 0 && now.words.get(w)[0] == t[1]) {
                            if (stains[w][t[0]] < 0) {
                                stains[w][t[0]] = now.stain(w, t[0]);
                            }
                            got += stains[w][t[0]];
                        }
                    }
                    fits &= got == t[2];
                }
                if (fits) {
                    all.add(set);
                }
            }
            return all;
        }

        int preached(int i) {
            List<Integer> all = sets();
            return i == -1 ? all.size() : out(i, 0, all.size() - 1) ? -1 : all.get(i);
        }

        int look(int what) {
            List<Integer> all = sets();
            if (all.isEmpty() || out(what, 0, 1)) {
                return -1;
            }
            int best = -1;
            int least = Integer.MAX_VALUE;
            for (int p = 0; p < 16; p++) {
                int[] stains = new int[now.words.size()];
                for (int w = 0; w < stains.length; w++) {
                    stains[w] = now.stain(w, p);
                }
                Map<Integer, Integer> groups = new HashMap<>();
                for (int set : all) {
                    int sum = 0;
                    for (int w = 0; w < stains.length; w++) {
                        sum += (set & 1 << w) != 0 ? stains[w] : 0;
                    }
                    groups.merge(sum, 1, Integer::sum);
                }
                int most = Collections.max(groups.values());
                if (most < least) {
                    least = most;
                    best = p;
                }
            }
            return what == 0 ? best : least;
        }

        int bestSum;
        int[] bestRow;

        int seated(int what) {
            int n = now.listeners.size();
            if (out(what, 0, n)) {
                return -1000;
            }
            int[][] does = new int[n][8];
            for (int l = 0; l < n; l++) {
                for (int s = 0; s < 8; s++) {
                    does[l][s] = now.does(s, now.listeners.get(l)[1]);
                }
            }
            bestSum = Integer.MIN_VALUE;
            tryRows(does, new int[n], 0, 0);
            return what == 0 ? bestSum : bestRow[what - 1];
        }

        void tryRows(int[][] does, int[] row, int l, int sum) {
            if (l == row.length) {
                if (sum > bestSum) {
                    bestSum = sum;
                    bestRow = row.clone();
                }
                return;
            }
            for (int s = 0; s < 8; s++) {
                boolean used = false;
                for (int k = 0; k < l; k++) {
                    used |= row[k] == s;
                }
                if (!used) {
                    row[l] = s;
                    tryRows(does, row, l + 1, sum + does[l][s]);
                }
            }
        }

        /** Scrapes one by one, on a copy, until it is not black. */
        int cleared(int seat) {
            if (out(seat, 0, 7)) {
                return -1;
            }
            int n = 0;
            for (int p : now.panesOf(seat)) {
                int from = now.from(p);
                int has = now.together(p);
                while (has >= from) {
                    if (has == 0) {
                        return -1;
                    }
                    has--;
                    n++;
                }
            }
            return n;
        }

        int apart(int what) {
            if (out(what, 0, 1)) {
                return -1;
            }
            int n = now.words.size();
            String[][] looks = new String[n][16];
            for (int w = 0; w < n; w++) {
                for (int p = 0; p < 16; p++) {
                    int s = now.stain(w, p);
                    looks[w][p] = s == 0 ? "0" : now.words.get(w)[0] + ":" + s;
                }
            }
            List<Integer> masks = new ArrayList<>();
            for (int a = 0; a < n; a++) {
                for (int b = a + 1; b < n; b++) {
                    int mask = 0;
                    for (int p = 0; p < 16; p++) {
                        mask |= looks[a][p].equals(looks[b][p]) ? 0 : 1 << p;
                    }
                    masks.add(mask);
                }
            }
            int best = -1;
            for (int set = 0; set < 65536; set++) {
                boolean all = true;
                for (int mask : masks) {
                    all &= (mask & set) != 0;
                }
                if (all && (best < 0 || Integer.bitCount(set) < Integer.bitCount(best))) {
                    best = set;
                }
            }
            return best < 0 ? -1 : what == 0 ? Integer.bitCount(best) : best;
        }

        int place(int p, int what) {
            if (out(p, 0, 15) || out(what, 0, 1)) {
                return -1;
            }
            int best = -1;
            int most = -1;
            for (int q = 0; q < 16; q++) {
                State s = now.copy();
                s.pulpit = q;
                int all = 0;
                for (int w = 0; w < s.words.size(); w++) {
                    all += s.barred(w) ? 0 : s.stain(w, p);
                }
                if (all > most) {
                    most = all;
                    best = q;
                }
            }
            return what == 0 ? best : most;
        }

        List<Integer> bestWay;
        int fewestBlack;

        int way(int q, int i) {
            if (out(q, 0, 15) || q == now.pulpit) {
                return -1;
            }
            boolean[] black = new boolean[16];
            for (int p = 0; p < 16; p++) {
                black[p] = p != q && now.black(p);
            }
            bestWay = null;
            List<Integer> row = new ArrayList<>();
            tryWays(black, now.pulpit, q, row, 0);
            return i == -1 ? fewestBlack : out(i, 0, bestWay.size() - 1) ? -1 : bestWay.get(i);
        }

        void tryWays(boolean[] black, int at, int q, List<Integer> row, int n) {
            if (at == q) {
                if (bestWay == null || n < fewestBlack || n == fewestBlack && before(row, bestWay)) {
                    bestWay = new ArrayList<>(row);
                    fewestBlack = n;
                }
                return;
            }
            List<Integer> steps = new ArrayList<>();
            if (at / 4 != q / 4) {
                steps.add(at / 4 < q / 4 ? at + 4 : at - 4);
            }
            if (at % 4 != q % 4) {
                steps.add(at % 4 < q % 4 ? at + 1 : at - 1);
            }
            for (int step : steps) {
                row.add(step);
                tryWays(black, step, q, row, n + (black[step] ? 1 : 0));
                row.remove(row.size() - 1);
            }
        }

        int later(int l, int n) {
            if (out(l, 0, now.listeners.size() - 1) || out(n, 0, 60)) {
                return -1;
            }
            State s = now.copy();
            for (int i = 0; i < n; i++) {
                s.hour();
            }
            return s.listeners.get(l)[1];
        }

        int blackened(int law) {
            if (law != -1 && out(law, 0, now.laws.size() - 1)) {
                return -1;
            }
            State s = now.copy();
            s.force = law;
            return s.blacks();
        }

        long few(int k, int n) {
            if (out(k, 1, 20) || out(n, 0, 99)) {
                return -1;
            }
            TreeMap<Integer, BigInteger> parts = new TreeMap<>();
            parts.put(0, BigInteger.valueOf(1000000000000L));
            for (int v = 0; v < n; v++) {
                TreeMap<Integer, BigInteger> next = new TreeMap<>();
                for (Map.Entry<Integer, BigInteger> e : parts.entrySet()) {
                    next.merge(e.getKey(), e.getValue().multiply(BigInteger.valueOf(10 - now.terms[1])).divide(BigInteger.TEN), BigInteger::add);
                    next.merge(e.getKey() + 1, e.getValue().multiply(BigInteger.valueOf(now.terms[1])).divide(BigInteger.TEN), BigInteger::add);
                }
                parts = next;
            }
            long all = 0;
            for (BigInteger part : parts.headMap(k).values()) {
                all += part.longValueExact();
            }
            return all;
        }

        long s;

        int draw(int m) {
            s = (s * 1103 + 12345) % 1000003;
            return (int) (s % m);
        }

        int years(int seed, int n) {
            if (out(seed, 0, 1000000) || out(n, 1, 60)) {
                return refused(-1);
            }
            if (now.words.isEmpty()) {
                return refused(-3);
            }
            years = now.copy();
            s = seed;
            int count = 0;
            for (int i = 0; i < n; i++) {
                if (years.terms[0] == 999) {
                    break;
                }
                int w = draw(years.words.size());
                int p = draw(16);
                int deed = draw(3);
                if (deed == 0) {
                    count += years.preach(w) >= 0 ? 1 : 0;
                } else if (deed == 1) {
                    years.walk(p);
                }
                years.pass();
            }
            return fine(count);
        }

        int drawn(int k, int what) {
            if (years == null || out(what, 0, 3) || out(k, 0, what == 3 ? years.listeners.size() - 1 : 15)) {
                return -1;
            }
            return what == 3 ? years.listeners.get(k)[1] : years.hues[k][what];
        }

        int image(int k) {
            if (out(k, 0, 1)) {
                return refused(-1);
            }
            images[k] = now.copy();
            return fine(0);
        }

        int back(int k) {
            if (out(k, 0, 1)) {
                return refused(-1);
            }
            if (images[k] == null) {
                return refused(-2);
            }
            now = images[k].copy();
            return changed(0);
        }

        int count(int what) {
            int[] all = {now.words.size(), now.listeners.size(), now.blacks(), now.pulpit, now.told.size(), now.laws.size(),
                undo.size(), tape.length(), refusals[1], refusals[2], refusals[3], refusals[5], refusals[6], now.force,
                now.terms[0], now.terms[1], now.terms[2]};
            return out(what, 0, 16) ? -1 : all[what];
        }
    }

    // ---- what is drawn ----

    private static final class Drawer {
        final Random random;
        int room;

        Drawer(long seed) {
            random = new Random(seed);
        }

        int upTo(int n) {
            return random.nextInt(n + 1);
        }

        /** Mostly 0 .. n, sometimes a little outside, seldom anything. */
        int near(int n) {
            int kind = upTo(99);
            if (kind < 94) {
                return upTo(Math.max(0, n));
            }
            if (kind < 99) {
                return upTo(1) == 0 ? -1 - upTo(1) : n + 1 + upTo(1);
            }
            int[] odd = {Integer.MIN_VALUE, Integer.MAX_VALUE, -1000, 1 << 16, 1 << 31 >>> 1};
            return odd[upTo(odd.length - 1)];
        }

        String one(String... all) {
            return all[upTo(all.length - 1)];
        }

        String number() {
            int kind = upTo(19);
            return kind < 14 ? "" + upTo(20) : kind < 18 ? "" + upTo(100) : kind == 18 ? "" + upTo(1003) : one("1000", "0", "007", "00");
        }

        String part(boolean orders, int depth) {
            room--;
            int kind = upTo(9);
            if (kind < 4 || room < 0) {
                return number();
            }
            if (kind == 4 && depth < 9) {
                return "[" + sum(orders, depth + 1) + "]";
            }
            if (!orders) {
                return one("word", "hue", "force", "away", "row", "column", "red", "blue", "green", "spirit", "hour", "mood");
            }
            String word = one("hour", "done", "latest", "pulpit", "black", "red", "blue", "green", "spirit");
            int limit = word.equals("spirit") ? 5 : word.equals("red") || word.equals("blue") || word.equals("green") ? 15 : -1;
            return limit < 0 ? word : word + " " + (upTo(60) == 0 ? limit + 1 : upTo(limit));
        }

        String sum(boolean orders, int depth) {
            StringBuilder all = new StringBuilder(part(orders, depth));
            while (upTo(9) < 4 && room > 0) {
                all.append(one(" + ", " - ", " * ", "/", "%", "+", " *")).append(part(orders, depth));
            }
            return all.toString();
        }

        String test(boolean orders, int depth) {
            String plain;
            int kind = upTo(9);
            if (kind == 0) {
                plain = "not " + test(orders, depth + 1);
            } else if (kind <= 2 && depth < 9) {
                plain = "(" + test(orders, depth + 1) + ")";
            } else {
                plain = sum(orders, depth) + one(" < ", " > ", " = ", "<", ">", "=") + sum(orders, depth);
            }
            return upTo(9) < 3 && room > 0 ? plain + one(" and ", " or ") + test(orders, depth) : plain;
        }

        String law() {
            StringBuilder all = new StringBuilder();
            int clauses = 1 + upTo(upTo(20) == 0 ? 13 : 4);
            for (int c = 0; c < clauses; c++) {
                room = 6;
                String kind = one("stains", "stains", "does", "does", "blacks", "blacks", "bars");
                all.append(c == 0 ? "" : one(";", "; ", " ; ")).append(kind);
                if (!kind.equals("bars")) {
                    all.append(' ').append(sum(false, 0));
                }
                if (kind.equals("bars") || upTo(2) > 0) {
                    all.append(" if ").append(test(false, 0));
                }
            }
            return all.toString();
        }

        String orders(Model m) {
            StringBuilder all = new StringBuilder();
            int clauses = 1 + upTo(upTo(20) == 0 ? 13 : 3);
            for (int c = 0; c < clauses; c++) {
                room = 4;
                String kind = one("preach", "scrape", "walk", "sit", "pass", "preach", "pass");
                all.append(c == 0 ? "" : ";").append(kind);
                boolean plainly = upTo(3) > 0;
                switch (kind) {
                    case "preach":
                        all.append(' ').append(plainly ? "" + upTo(Math.max(0, m.now.words.size() - 1)) : sum(true, 0));
                        break;
                    case "scrape":
                        all.append(' ').append(plainly ? "" + upTo(15) : sum(true, 0)).append(" of ").append(plainly ? "" + upTo(2) : sum(true, 0));
                        break;
                    case "walk":
                        all.append(' ').append(plainly ? "" + upTo(15) : sum(true, 0));
                        break;
                    case "sit":
                        all.append(' ').append(plainly ? "" + upTo(Math.max(0, m.now.listeners.size() - 1)) : sum(true, 0)).append(" at ").append(plainly ? "" + upTo(7) : sum(true, 0));
                        break;
                    default:
                        break;
                }
                if (upTo(3) == 0) {
                    all.append(" times ").append(upTo(30) == 0 ? one("0", "21", "hour") : "" + (1 + upTo(upTo(3) == 0 ? 19 : 3)));
                }
                if (upTo(2) == 0) {
                    all.append(" if ").append(test(true, 0));
                }
            }
            return all.toString();
        }

        /** Spoils a text a little. */
        String spoilt(String text) {
            if (upTo(5) > 0 || text.isEmpty()) {
                return text;
            }
            int at = upTo(text.length() - 1);
            switch (upTo(4)) {
                case 0:
                    return text.substring(0, at);
                case 1:
                    return text.substring(0, at) + text.substring(at + 1);
                case 2:
                    return text.substring(0, at) + one(" ", ";", "[", "(", ")", "]", "+", "not ", " or ", "=", "\t", "\u00ff", "Z", "9", "x", " if ") + text.substring(at);
                case 3:
                    return text + one(" ", "   ", ";", " 1", " if", ")", "=");
                default:
                    return " " + text;
            }
        }
    }

    // ---- the runs ----

    private static final Map<String, int[]> seen = new LinkedHashMap<>();
    /** How many calls the object of this run was used for. */
    private static int made = 0;

    private static int number(byte[] bytes, int from) {
        int all = 0;
        for (int i = 0; i < 4; i++) {
            all = all << 8 | (from + i < bytes.length ? bytes[from + i] & 255 : 32);
        }
        return all;
    }

    /** One call on both: the model's answer and the class's. */
    private static long[] call(SermonPanes x, Model m, String name, int[] a) {
        switch (name) {
            case "word": return new long[] {x.word(a[0], a[1]), m.word(a[0], a[1])};
            case "of": return new long[] {x.of(a[0], a[1]), m.of(a[0], a[1])};
            case "at": return new long[] {x.at(a[0], a[1]), m.at(a[0], a[1])};
            case "listener": return new long[] {x.listener(a[0], a[1]), m.listener(a[0], a[1])};
            case "has": return new long[] {x.has(a[0], a[1]), m.has(a[0], a[1])};
            case "light": return new long[] {x.light(a[0], a[1]), Model.out(a[0], 0, 7) || Model.out(a[1], 0, 2) ? -1 : m.now.light(a[0], a[1])};
            case "terms": return new long[] {x.terms(a[0], a[1]), m.terms(a[0], a[1])};
            case "feed": return new long[] {x.feed(a[0], a[1], a[2], a[3], a[4]), m.feed(a)};
            case "end": {
                int want = Model.out(a[0], 0, m.tape.length()) ? -1 : a[0];
                if (want >= 0) {
                    m.tape.setLength(want);
                }
                return new long[] {x.end(a[0]), want};
            }
            case "row": return new long[] {x.row(), m.row()};
            case "leads": return new long[] {x.leads(), m.leads};
            case "law": return new long[] {x.law(), m.law()};
            case "orders": return new long[] {x.orders(), m.orders()};
            case "fault": return new long[] {x.fault(), m.fault};
            case "stopped": return new long[] {x.stopped(), m.stopped};
            case "force": return new long[] {x.force(a[0]), m.force(a[0])};
            case "preach": return new long[] {x.preach(a[0]), m.step(0, a[0], 0)};
            case "scrape": return new long[] {x.scrape(a[0], a[1]), m.step(1, a[0], a[1])};
            case "walk": return new long[] {x.walk(a[0]), m.step(2, a[0], 0)};
            case "sit": return new long[] {x.sit(a[0], a[1]), m.step(3, a[0], a[1])};
            case "pass": return new long[] {x.pass(), m.step(4, 0, 0)};
            case "undo": return new long[] {x.undo(), m.undo()};
            case "sermon": return new long[] {x.sermon(a[0], a[1], a[2], a[3], a[4]), m.sermon(a[0], a[1], a[2], a[3], a[4])};
            case "told": return new long[] {x.told(a[0], a[1], a[2]), m.told(a[0], a[1], a[2])};
            case "forget": return new long[] {x.forget(), m.forget()};
            case "preached": return new long[] {x.preached(a[0]), m.preached(a[0])};
            case "look": return new long[] {x.look(a[0]), m.look(a[0])};
            case "seated": return new long[] {x.seated(a[0]), m.seated(a[0])};
            case "cleared": return new long[] {x.cleared(a[0]), m.cleared(a[0])};
            case "apart": return new long[] {x.apart(a[0]), m.apart(a[0])};
            case "place": return new long[] {x.place(a[0], a[1]), m.place(a[0], a[1])};
            case "way": return new long[] {x.way(a[0], a[1]), m.way(a[0], a[1])};
            case "later": return new long[] {x.later(a[0], a[1]), m.later(a[0], a[1])};
            case "blackened": return new long[] {x.blackened(a[0]), m.blackened(a[0])};
            case "few": return new long[] {x.few(a[0], a[1]), m.few(a[0], a[1])};
            case "years": return new long[] {x.years(a[0], a[1]), m.years(a[0], a[1])};
            case "drawn": return new long[] {x.drawn(a[0], a[1]), m.drawn(a[0], a[1])};
            case "image": return new long[] {x.image(a[0]), m.image(a[0])};
            case "back": return new long[] {x.back(a[0]), m.back(a[0])};
            case "count": return new long[] {x.count(a[0]), m.count(a[0])};
            default: return new long[] {x.status(), m.status};
        }
    }

    private static boolean agree(int run, int at, SermonPanes x, Model m, String name, int... a) {
        made++;
        long[] both = call(x, m, name, a);
        int[] tally = seen.computeIfAbsent(name, n -> new int[2]);
        tally[0]++;
        tally[1] += both[1] > 0 ? 1 : 0;
        if (both[0] != both[1]) {
            System.out.println("run " + run + ", call " + at + ": " + name + Arrays.toString(a) + " answered " + both[0] + ", the model " + both[1]);
        }
        return both[0] == both[1];
    }

    private static boolean textAgrees(int run, int at, SermonPanes x, Model m, String name, String text) {
        byte[] bytes = (text.length() > 400 ? text.substring(0, 400) : text).getBytes(StandardCharsets.ISO_8859_1);
        boolean fine = agree(run, at, x, m, "end", 0);
        for (int from = 0; from < bytes.length; from += 20) {
            fine &= agree(run, at, x, m, "feed", number(bytes, from), number(bytes, from + 4), number(bytes, from + 8),
                    number(bytes, from + 12), number(bytes, from + 16));
        }
        fine &= agree(run, at, x, m, "end", bytes.length);
        fine &= agree(run, at, x, m, name);
        fine &= agree(run, at, x, m, "fault");
        fine &= agree(run, at, x, m, "stopped");
        if (!fine) {
            System.out.println("  the text: " + text);
        }
        return fine;
    }

    private static String panes(Drawer d) {
        StringBuilder all = new StringBuilder();
        int n = upToRow(d);
        int most = d.one("9", "30", "99", "20").length() == 1 ? 9 : 10 + d.upTo(89);
        for (int i = 0; i < n; i++) {
            all.append((char) (d.upTo(15) + (d.upTo(30) == 0 ? 9 : 0)));
            for (int h = 0; h < 3; h++) {
                all.append((char) (d.upTo(most) + (d.upTo(60) == 0 ? 50 : 0)));
            }
        }
        return d.upTo(5) == 0 && all.length() > 0 ? all.substring(0, all.length() - 1 - d.upTo(2)) : all.toString();
    }

    private static int upToRow(Drawer d) {
        return 1 + d.upTo(d.upTo(3) == 0 ? 60 : 10);
    }

    private static boolean drawCall(int run, int at, Drawer d, SermonPanes x, Model m) {
        int words = m.now.words.size();
        int listeners = m.now.listeners.size();
        switch (d.upTo(56)) {
            case 0: case 1: return agree(run, at, x, m, "word", d.near(2), d.upTo(20) == 0 ? d.near(11) : 1 + d.upTo(8));
            case 2: return agree(run, at, x, m, "listener", d.near(7), d.near(99));
            case 3: case 4: return agree(run, at, x, m, "of", d.near(words - 1), d.near(18));
            case 5: case 6: return agree(run, at, x, m, "at", d.near(15), d.near(5));
            case 7: case 8: return agree(run, at, x, m, "has", d.near(listeners - 1), d.near(2));
            case 9: return agree(run, at, x, m, "light", d.near(7), d.near(2));
            case 10: {
                int what = d.near(2);
                int value = what == 0 ? (d.upTo(3) == 0 ? 990 + d.upTo(10) : d.near(999)) : d.near(what == 1 ? 10 : 9);
                return d.upTo(2) == 0 ? agree(run, at, x, m, "terms", what, value) : agree(run, at, x, m, "count", d.near(16));
            }
            case 11: return d.upTo(2) == 0 ? textAgrees(run, at, x, m, "row", panes(d)) && agree(run, at, x, m, "leads") : agree(run, at, x, m, "leads");
            case 12: case 13: return textAgrees(run, at, x, m, "law", d.spoilt(d.law()));
            case 14: case 15: case 16: case 17: return textAgrees(run, at, x, m, "orders", d.spoilt(d.orders(m)));
            case 18: case 19: return agree(run, at, x, m, "force", d.near(m.now.laws.size()) - 1);
            case 20: case 21: case 22: return agree(run, at, x, m, "preach", d.near(words - 1));
            case 23: return agree(run, at, x, m, "scrape", d.near(15), d.near(2));
            case 24: return agree(run, at, x, m, "walk", d.near(15));
            case 25: return agree(run, at, x, m, "sit", d.near(listeners - 1), d.near(7));
            case 26: return agree(run, at, x, m, "pass");
            case 27: case 28: return agree(run, at, x, m, "undo");
            case 29: case 30: case 31: {
                int p = d.upTo(15);
                int[] want = new int[3];
                for (int h = 0; h < 3; h++) {
                    want[h] = d.upTo(20) == 0 ? d.near(99) : m.now.hues[p][h];
                }
                for (int w = 0; w < words; w++) {
                    want[m.now.words.get(w)[0]] += d.upTo(2) * m.now.stain(w, p);
                }
                return agree(run, at, x, m, "sermon", d.upTo(30) == 0 ? d.near(15) : p, want[0], want[1], want[2], d.upTo(1) == 0 ? -1 : d.near(6));
            }
            case 32: {
                int p = d.upTo(15);
                int h = d.upTo(2);
                int much = 0;
                for (int w = 0; w < words; w++) {
                    much += m.now.words.get(w)[0] == h && d.upTo(1) == 0 ? m.now.stain(w, p) : 0;
                }
                return d.upTo(9) == 0 ? agree(run, at, x, m, "told", d.near(15), d.near(2), d.near(99)) : agree(run, at, x, m, "told", p, h, much);
            }
            case 33: return d.upTo(1) == 0 ? agree(run, at, x, m, "forget") : agree(run, at, x, m, "status");
            case 34: case 35: return agree(run, at, x, m, "preached", d.upTo(1) == 0 ? -1 : d.near(1 << d.upTo(words)));
            case 36: return agree(run, at, x, m, "look", d.near(1));
            case 37: return d.upTo(3) == 0 ? agree(run, at, x, m, "seated", d.near(listeners)) : agree(run, at, x, m, "count", d.near(16));
            case 38: case 39: return agree(run, at, x, m, "cleared", d.near(7));
            case 40: return d.upTo(3) == 0 ? agree(run, at, x, m, "apart", d.near(1)) : agree(run, at, x, m, "stopped");
            case 41: return agree(run, at, x, m, "place", d.near(15), d.near(1));
            case 42: case 43: return agree(run, at, x, m, "way", d.near(15), d.upTo(2) == 0 ? -1 : d.near(4));
            case 44: return agree(run, at, x, m, "later", d.near(listeners - 1), d.upTo(1) == 0 ? d.near(60) : d.near(5));
            case 45: return agree(run, at, x, m, "blackened", d.near(m.now.laws.size()) - 1);
            case 46: return agree(run, at, x, m, "few", 1 + d.near(19), d.upTo(1) == 0 ? d.near(99) : d.near(20));
            case 47: return agree(run, at, x, m, "years", d.near(1000000), 1 + (d.upTo(2) == 0 ? d.near(59) : d.near(5)));
            case 48: case 49: return agree(run, at, x, m, "drawn", d.near(d.upTo(1) == 0 ? 15 : 5), d.near(3));
            case 50: return agree(run, at, x, m, "image", d.near(1));
            case 51: return d.upTo(3) == 0 ? agree(run, at, x, m, "back", d.near(1)) : agree(run, at, x, m, "fault");
            case 52: case 53: return agree(run, at, x, m, "count", d.near(16));
            case 54: return agree(run, at, x, m, "status");
            case 55: return d.upTo(3) > 0 || agree(run, at, x, m, d.one("law", "orders", "row"));
            default: return d.upTo(3) > 0 ? agree(run, at, x, m, "end", d.near(m.tape.length()))
                    : agree(run, at, x, m, "feed", d.random.nextInt(), d.random.nextInt(), d.random.nextInt(), d.random.nextInt(), d.random.nextInt());
        }
    }

    /** All that can be read without a change, so that no difference stays hidden. */
    private static boolean allAgrees(int run, int at, SermonPanes x, Model m) {
        boolean fine = true;
        for (int p = 0; p < 16; p++) {
            for (int what = 0; what < 6; what++) {
                fine &= agree(run, at, x, m, "at", p, what);
            }
        }
        for (int l = 0; l < 6; l++) {
            for (int what = 0; what < 3; what++) {
                fine &= agree(run, at, x, m, "has", l, what);
            }
        }
        for (int what = 0; what < 17; what++) {
            fine &= agree(run, at, x, m, "count", what);
        }
        for (int w = 0; w < 8; w++) {
            for (int what = 0; what < 19; what++) {
                fine &= agree(run, at, x, m, "of", w, what);
            }
        }
        return fine & agree(run, at, x, m, "status");
    }

    private static boolean runAgrees(int run) {
        Drawer d = new Drawer(run * 7919L + 11);
        SermonPanes x = new SermonPanes();
        Model m = new Model();
        // To look at all takes half of an object's calls: every other run goes on drawing instead.
        boolean looks = run % 2 == 0;
        int drawn = CALLS - (looks ? CALLS_OF_ALL : 0) - CALLS_OF_A_DRAW;
        made = 0;
        boolean fine = true;
        for (int at = 0; made <= drawn && fine; at++) {
            fine = drawCall(run, at, d, x, m);
        }
        fine = fine && (!looks || allAgrees(run, -1, x, m));
        if (made > CALLS) {
            System.out.println("run " + run + " used its object for " + made + " calls");
        }
        return fine && made <= CALLS;
    }

    public static void main(String[] args) {
        int runs = args.length > 0 ? Integer.parseInt(args[0]) : RUNS;
        int bad = 0;
        for (int run = 0; run < runs && bad < 5; run++) {
            bad += runAgrees(run) ? 0 : 1;
        }
        if (args.length > 1) {
            for (Map.Entry<String, int[]> e : seen.entrySet()) {
                System.out.println(e.getKey() + ": " + e.getValue()[0] + " calls, " + e.getValue()[1] + " answered above 0");
            }
        }
        System.out.println(runs + " runs, " + bad + " of them not as the model");
        if (bad != 0) {
            System.exit(1);
        }
    }
}
