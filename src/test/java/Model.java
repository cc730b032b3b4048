import java.math.BigInteger;
import java.util.ArrayDeque;
import java.util.ArrayList;
import java.util.Arrays;
import java.util.Deque;
import java.util.HashSet;
import java.util.List;
import java.util.Set;
import java.util.TreeSet;
import java.util.regex.Matcher;
import java.util.regex.Pattern;

/**
 * The document told a second time, as plainly as can be and without any thought of speed, so that
 * the class can be held against it. Texts are judged by a table of expectations (no descent), laws
 * are reckoned straight from their tokens, sets are looked through one by one.
 */
final class Model {
    static final int NONE = -1;

    private record Token(String word, int at) {
        boolean isNumber() {
            return !word.isEmpty() && Character.isDigit(word.charAt(0));
        }

        long number() {
            return new BigInteger(word).min(BigInteger.TEN.pow(12)).longValue();
        }
    }

    private record Line(int hour, int plank, int what, int wind) { }

    private static final class Things {
        int[] how = new int[8];
        boolean[][] objects = new boolean[8][8];
        int wind;
        int hour;
        int x = 337;
        List<Line> book = new ArrayList<>();

        Things copy() {
            Things c = new Things();
            c.how = how.clone();
            for (int i = 0; i < 8; i++) {
                c.objects[i] = objects[i].clone();
            }
            c.wind = wind;
            c.hour = hour;
            c.x = x;
            c.book = new ArrayList<>(book);
            return c;
        }
    }

    private static final class World {
        List<Integer> weights = new ArrayList<>();
        List<Integer> rests = new ArrayList<>();
        Things things = new Things();
        List<Things> steps = new ArrayList<>();
        List<List<List<Token>>> texts = new ArrayList<>();
        int ruling = NONE;
        List<Integer> votes = new ArrayList<>();
        List<int[]> said = new ArrayList<>();

        World copy() {
            World c = new World();
            c.weights = new ArrayList<>(weights);
            c.rests = new ArrayList<>(rests);
            c.things = things.copy();
            for (Things s : steps) {
                c.steps.add(s.copy());
            }
            c.texts = new ArrayList<>(texts);
            c.ruling = ruling;
            c.votes = new ArrayList<>(votes);
            c.said = new ArrayList<>(said);
            return c;
        }
    }

    private World w = new World();
    private World kept = new World();
    private final List<Integer> tape = new ArrayList<>();
    private int[] fault;

    // ---- planks and texts

    int plank(int weight, int rests) {
        if (weight < 1 || weight > 9 || w.weights.size() == 8 || !bits(rests)) {
            return NONE;
        }
        w.weights.add(weight);
        w.rests.add(rests);
        return w.weights.size() - 1;
    }

    int feed(int a, int b, int c, int d, int e) {
        if (tape.size() > 280) {
            return NONE;
        }
        for (int four : new int[] {a, b, c, d, e}) {
            tape.add(four >>> 24);
            tape.add(four >>> 16 & 255);
            tape.add(four >>> 8 & 255);
            tape.add(four & 255);
        }
        return tape.size();
    }

    int end(int n) {
        if (n < 0 || n > tape.size()) {
            return NONE;
        }
        tape.subList(n, tape.size()).clear();
        return n;
    }

    int text() {
        if (w.texts.size() == 4) {
            return NONE;
        }
        List<Token> tokens = tokens();
        fault = judge(tokens);
        tape.clear();
        if (fault[0] != 0) {
            return NONE;
        }
        List<List<Token>> clauses = new ArrayList<>();
        List<Token> clause = new ArrayList<>();
        for (Token t : tokens) {
            if (t.word.equals(";")) {
                clauses.add(clause);
                clause = new ArrayList<>();
            } else {
                clause.add(t);
            }
        }
        w.texts.add(clauses);
        return w.texts.size() - 1;
    }

    int fault(int what) {
        return fault == null || what < 0 || what > 1 ? NONE : fault[what];
    }

    boolean by(int text) {
        if (text < -1 || text >= w.texts.size()) {
            return false;
        }
        w.ruling = text;
        return true;
    }

    private List<Token> tokens() {
        StringBuilder all = new StringBuilder();
        for (int b : tape) {
            all.append((char) b);
        }
        List<Token> out = new ArrayList<>();
        Matcher m = Pattern
                .compile("[ \\n]+|([a-zA-Z]+|[0-9]+|<=|>=|[\\x00-\\xff])", Pattern.DOTALL).matcher(all);
        while (m.find()) {
            if (m.group(1) != null) {
                out.add(new Token(m.group(1), m.start()));
            }
        }
        out.add(new Token("", all.length()));
        return out;
    }

    private static final Set<String> NAMES = Set.of("hour", "wind", "number", "weight", "up", "against", "rests", "load");
    private static final Set<String> COMPARE = Set.of("<", "<=", ">", ">=", "=", "#");

    /** What is expected next is a pile of words; SHUT tells that one of those that are open ends. */
    private static int[] judge(List<Token> tokens) {
        Deque<String> pile = new ArrayDeque<>();
        pile.push("TEXT");
        int open = 0;
        int clauses = 0;
        Set<String> laws = new HashSet<>();
        String law = "";
        for (Token t : tokens) {
            boolean taken = false;
            while (!taken) {
                if (pile.isEmpty()) {
                    return new int[] {t.word.isEmpty() ? 0 : 1, t.word.isEmpty() ? NONE : t.at};
                }
                String want = pile.pop();
                String[] next = null;
                boolean opens = false;
                switch (want) {
                    case "SHUT" -> {
                        open--;
                        continue;
                    }
                    case "TEXT" -> {
                        if (t.word.isEmpty()) {
                            continue;
                        }
                        next = switch (t.word) {
                            case "puts", "falls" -> new String[] {"SUM", ";", "TEXT"};
                            case "plank" -> new String[] {"1-9", "on", "0-79", ";", "TEXT"};
                            case "put", "take", "concede" -> new String[] {"0-7", ";", "TEXT"};
                            case "object", "drop" -> new String[] {"0-7", "to", "0-7", ";", "TEXT"};
                            case "hour" -> new String[] {"1-60", ";", "TEXT"};
                            default -> null;
                        };
                        if (next == null) {
                            return new int[] {1, t.at};
                        }
                        if (next[0].equals("SUM")) {
                            law = t.word;
                            if (!laws.add(law)) {
                                return new int[] {4, t.at};
                            }
                        }
                        clauses++;
                        if (clauses == 25) {
                            return new int[] {6, t.at};
                        }
                        taken = true;
                    }
                    case "SUM" -> next = new String[] {"PRODUCT", "SUM+"};
                    case "SUM+" -> {
                        if (t.word.equals("+") || t.word.equals("-")) {
                            next = new String[] {"PRODUCT", "SUM+"};
                            taken = true;
                        }
                    }
                    case "PRODUCT" -> next = new String[] {"ONE", "PRODUCT+"};
                    case "PRODUCT+" -> {
                        if (t.word.equals("*") || t.word.equals("/")) {
                            next = new String[] {"ONE", "PRODUCT+"};
                            taken = true;
                        }
                    }
                    case "EITHER" -> next = new String[] {"BOTH", "EITHER+"};
                    case "EITHER+" -> {
                        if (t.word.equals("or")) {
                            next = new String[] {"BOTH", "EITHER+"};
                            taken = true;
                        }
                    }
                    case "BOTH" -> next = new String[] {"ASK", "BOTH+"};
                    case "BOTH+" -> {
                        if (t.word.equals("and")) {
                            next = new String[] {"ASK", "BOTH+"};
                            taken = true;
                        }
                    }
                    case "ASK" -> {
                        if (t.word.equals("not")) {
                            next = new String[] {"ASK", "SHUT"};
                            opens = true;
                        } else {
                            next = new String[] {"SUM", "COMPARE", "SUM"};
                        }
                    }
                    case "COMPARE" -> {
                        if (!COMPARE.contains(t.word)) {
                            return new int[] {1, t.at};
                        }
                        taken = true;
                    }
                    case "ONE" -> {
                        taken = true;
                        if (t.isNumber()) {
                            if (t.number() > 9999) {
                                return new int[] {2, t.at};
                            }
                        } else if (NAMES.contains(t.word)) {
                            if (t.word.equals("rests") && law.equals("falls") || t.word.equals("load") && law.equals("puts")) {
                                return new int[] {5, t.at};
                            }
                        } else {
                            opens = true;
                            next = switch (t.word) {
                                case "(" -> new String[] {"SUM", ")", "SHUT"};
                                case "-", "heavy" -> new String[] {"ONE", "SHUT"};
                                case "bits" -> new String[] {"ONE", "of", "ONE", "SHUT"};
                                case "if" -> new String[] {"EITHER", "then", "SUM", "else", "SUM", "end", "SHUT"};
                                default -> null;
                            };
                            if (next == null) {
                                return new int[] {1, t.at};
                            }
                        }
                    }
                    case "1-9", "0-7", "0-79", "1-60" -> {
                        if (!t.isNumber()) {
                            return new int[] {1, t.at};
                        }
                        long n = t.number();
                        boolean fine = switch (want) {
                            case "1-9" -> n >= 1 && n <= 9;
                            case "0-7" -> n <= 7;
                            case "0-79" -> n <= 7 || n == 9;
                            default -> n >= 1 && n <= 60;
                        };
                        if (!fine) {
                            return new int[] {2, t.at};
                        }
                        taken = true;
                    }
                    default -> {
                        if (!want.equals(t.word)) {
                            return new int[] {1, t.at};
                        }
                        taken = true;
                    }
                }
                if (opens) {
                    open++;
                    taken = true;
                    if (open == 9) {
                        return new int[] {3, t.at};
                    }
                }
                if (next != null) {
                    for (int i = next.length - 1; i >= 0; i--) {
                        pile.push(next[i]);
                    }
                }
            }
        }
        return new int[] {0, NONE};
    }

    // ---- laws

    private final class Reckoning {
        final List<Token> tokens;
        final Things things;
        final int plank;
        int at = 1;

        Reckoning(List<Token> tokens, Things things, int plank) {
            this.tokens = tokens;
            this.things = things;
            this.plank = plank;
        }

        String peek() {
            return at < tokens.size() ? tokens.get(at).word : "";
        }

        boolean eat(String word) {
            if (peek().equals(word)) {
                at++;
                return true;
            }
            return false;
        }

        long clip(long v) {
            return v > 1000000 ? 1000000 : v < -1000000 ? -1000000 : v;
        }

        long sum() {
            long v = product();
            while (true) {
                if (eat("+")) {
                    v = clip(v + product());
                } else if (eat("-")) {
                    v = clip(v - product());
                } else {
                    return v;
                }
            }
        }

        long product() {
            long v = one();
            while (true) {
                if (eat("*")) {
                    v = clip(v * one());
                } else if (eat("/")) {
                    long d = one();
                    v = d == 0 ? 0 : v / d;
                } else {
                    return v;
                }
            }
        }

        long one() {
            if (eat("(")) {
                long v = sum();
                at++;
                return v;
            }
            if (eat("-")) {
                return -one();
            }
            if (eat("bits")) {
                long a = Math.abs(one());
                at++;
                long b = Math.abs(one());
                long v = 0;
                for (long p = 1; p <= 1 << 21; p *= 2) {
                    if (a / p % 2 == 1 && b / p % 2 == 1) {
                        v += p;
                    }
                }
                return v;
            }
            if (eat("heavy")) {
                long p = one();
                return p >= 0 && p < w.weights.size() ? w.weights.get((int) p) : 0;
            }
            if (eat("if")) {
                boolean yes = either();
                at++;
                long a = sum();
                at++;
                long b = sum();
                at++;
                return yes ? a : b;
            }
            Token t = tokens.get(at++);
            return t.isNumber() ? t.number() : name(t.word);
        }

        long name(String name) {
            return switch (name) {
                case "hour" -> things.hour;
                case "wind" -> things.wind;
                case "number" -> plank;
                case "weight" -> w.weights.get(plank);
                case "up" -> ups(things).size();
                case "against" -> ups(things).stream().filter(p -> things.objects[p][plank]).count();
                case "rests" -> Integer.bitCount(w.rests.get(plank));
                case "load" -> ups(things).stream().filter(p -> (w.rests.get(p) >> plank & 1) == 1).count();
                default -> throw new IllegalStateException(name);
            };
        }

        boolean either() {
            boolean v = both();
            while (eat("or")) {
                boolean r = both();
                v = v || r;
            }
            return v;
        }

        boolean both() {
            boolean v = ask();
            while (eat("and")) {
                boolean r = ask();
                v = v && r;
            }
            return v;
        }

        boolean ask() {
            if (eat("not")) {
                return !ask();
            }
            long a = sum();
            String how = tokens.get(at++).word;
            long b = sum();
            return switch (how) {
                case "<" -> a < b;
                case "<=" -> a <= b;
                case ">" -> a > b;
                case ">=" -> a >= b;
                case "=" -> a == b;
                default -> a != b;
            };
        }
    }

    private List<Integer> ups(Things things) {
        List<Integer> out = new ArrayList<>();
        for (int p = 0; p < w.weights.size(); p++) {
            if (things.how[p] == 1) {
                out.add(p);
            }
        }
        return out;
    }

    private Long law(int text, String which, Things things, int plank) {
        if (text != NONE) {
            for (List<Token> clause : w.texts.get(text)) {
                if (!clause.isEmpty() && clause.get(0).word.equals(which)) {
                    return new Reckoning(clause, things, plank).sum();
                }
            }
        }
        return null;
    }

    private int puts(int plank) {
        Long v = law(w.ruling, "puts", w.things, plank);
        return v == null ? 1 : (int) Math.max(-99, Math.min(99, v));
    }

    private int falls(int text, Things things, int plank) {
        Long v = law(text, "falls", things, plank);
        if (v == null) {
            v = (long) things.wind - w.weights.get(plank);
        }
        return (int) Math.max(0, Math.min(10, v));
    }

    // ---- steps

    private void step() {
        w.steps.add(w.things.copy());
        if (w.steps.size() > 30) {
            w.steps.remove(0);
        }
    }

    private static void write(Things t, int plank, int what) {
        t.book.add(new Line(t.hour, plank, what, t.wind));
        if (t.book.size() > 30) {
            t.book.remove(0);
        }
    }

    private boolean told(int plank) {
        return plank >= 0 && plank < w.weights.size();
    }

    private boolean bits(int planks) {
        return planks >= 0 && planks < 1 << w.weights.size();
    }

    private boolean move(int plank, int what, boolean asStep) {
        if (!told(plank)) {
            return false;
        }
        Things t = w.things;
        boolean can;
        if (what == 0) {
            can = t.how[plank] == 0 && (gaps() >> plank & 1) == 1 && puts(plank) > 0;
        } else if (what == 1) {
            can = t.how[plank] == 1 && ups(t).stream().noneMatch(p -> (w.rests.get(p) >> plank & 1) == 1);
        } else {
            can = t.how[plank] == 1 && (grounded() >> plank & 1) == 1;
        }
        if (!can) {
            return false;
        }
        if (asStep) {
            step();
        }
        w.things.how[plank] = what == 0 ? 1 : what == 1 ? 0 : 2;
        write(w.things, plank, what == 2 ? 3 : what);
        return true;
    }

    boolean put(int plank) {
        return move(plank, 0, true);
    }

    boolean take(int plank) {
        return move(plank, 1, true);
    }

    boolean concede(int plank) {
        return move(plank, 2, true);
    }

    boolean object(int a, int b, boolean is) {
        if (!told(a) || !told(b) || w.things.objects[a][b] == is) {
            return false;
        }
        step();
        w.things.objects[a][b] = is;
        return true;
    }

    private int draw(Things t, int by) {
        int d = t.x % by;
        t.x = (t.x * 593 + 461) % 30829;
        return d;
    }

    private int pass(Things t) {
        int fell = 0;
        t.wind = draw(t, 10);
        for (int p = 0; p < w.weights.size(); p++) {
            if (t.how[p] == 1 && draw(t, 10) < falls(w.ruling, t, p)) {
                Set<Integer> falling = new TreeSet<>();
                falling.add(p);
                boolean more = true;
                while (more) {
                    more = false;
                    for (int q : ups(t)) {
                        for (int r : List.copyOf(falling)) {
                            if ((w.rests.get(q) >> r & 1) == 1 && falling.add(q)) {
                                more = true;
                            }
                        }
                    }
                }
                for (int q : falling) {
                    t.how[q] = 0;
                    write(t, q, 2);
                    fell++;
                }
            }
        }
        t.hour++;
        return fell;
    }

    int hour(int n) {
        if (n < 1 || n > 60 || w.things.hour + n > 9999) {
            return NONE;
        }
        int fell = 0;
        for (int i = 0; i < n; i++) {
            step();
            fell += pass(w.things);
        }
        return fell;
    }

    int played(int text) {
        if (text < 0 || text >= w.texts.size()) {
            return -2;
        }
        List<List<Token>> clauses = w.texts.get(text);
        for (int i = 0; i < clauses.size(); i++) {
            if (!play(clauses.get(i))) {
                return i;
            }
        }
        return NONE;
    }

    private boolean play(List<Token> c) {
        String what = c.get(0).word;
        if (what.equals("puts") || what.equals("falls")) {
            return true;
        }
        int a = (int) c.get(1).number();
        int b = c.size() > 3 ? (int) c.get(3).number() : 0;
        switch (what) {
            case "plank":
                return plank(a, b == 9 ? 0 : 1 << b) >= 0;
            case "put":
                return put(a);
            case "take":
                return take(a);
            case "concede":
                return concede(a);
            case "object":
                return object(a, b, true);
            case "drop":
                return object(a, b, false);
            default:
                for (int i = 0; i < a; i++) {
                    if (hour(1) == NONE) {
                        return false;
                    }
                }
                return true;
        }
    }

    int years(int seed, int n) {
        if (seed < 0 || seed > 9999 || n < 1 || n > 40) {
            return NONE;
        }
        step();
        w.things.x = seed * 2 + 337;
        int count = w.weights.size();
        for (int i = 0; i < n; i++) {
            int x = w.things.x;
            draw(w.things, 10);
            int what = x % 7;
            if (what >= 4) {
                if (w.things.hour < 9999) {
                    pass(w.things);
                }
            } else if (count > 0) {
                if (what < 3) {
                    move(x % count, what, false);
                } else {
                    int other = x / 7 % count;
                    w.things.objects[x % count][other] ^= true;
                }
            }
        }
        return w.things.hour;
    }

    int undo() {
        if (w.steps.isEmpty()) {
            return NONE;
        }
        w.things = w.steps.remove(w.steps.size() - 1);
        return w.steps.size();
    }

    // ---- looking

    int of(int plank, int what) {
        if (!told(plank)) {
            return -100;
        }
        int to = 0;
        int from = 0;
        for (int p = 0; p < 8; p++) {
            to |= w.things.objects[plank][p] ? 1 << p : 0;
            from |= w.things.objects[p][plank] ? 1 << p : 0;
        }
        return switch (what) {
            case 0 -> w.weights.get(plank);
            case 1 -> w.rests.get(plank);
            case 2 -> w.things.how[plank];
            case 3 -> to;
            case 4 -> from;
            case 5 -> puts(plank);
            case 6 -> falls(w.ruling, w.things, plank);
            default -> -100;
        };
    }

    private int those(Things t, int how) {
        int out = 0;
        for (int p = 0; p < w.weights.size(); p++) {
            out |= t.how[p] == how ? 1 << p : 0;
        }
        return out;
    }

    int is(int what) {
        return switch (what) {
            case 0 -> w.things.hour;
            case 1 -> w.things.x;
            case 2 -> w.things.wind;
            case 3 -> those(w.things, 1);
            case 4 -> those(w.things, 2);
            default -> -2;
        };
    }

    int book(int i, int what) {
        if (i == NONE) {
            return w.things.book.size();
        }
        if (i < 0 || i >= w.things.book.size()) {
            return -2;
        }
        Line l = w.things.book.get(i);
        return switch (what) {
            case 0 -> l.hour;
            case 1 -> l.plank;
            case 2 -> l.what;
            case 3 -> l.wind;
            default -> -2;
        };
    }

    int foretold(int n) {
        if (n < 1 || n > 60) {
            return -2;
        }
        Things t = w.things.copy();
        for (int i = 0; i < n; i++) {
            if (t.hour < 9999) {
                pass(t);
            }
        }
        return those(t, 1);
    }

    // ---- sets

    private static boolean in(int set, int p) {
        return (set >> p & 1) == 1;
    }

    private boolean quiet(int set) {
        for (int a = 0; a < 8; a++) {
            for (int b = 0; b < 8; b++) {
                if (in(set, a) && in(set, b) && w.things.objects[a][b]) {
                    return false;
                }
            }
        }
        return true;
    }

    private boolean hits(boolean[][] o, int set, int p) {
        for (int a = 0; a < 8; a++) {
            if (in(set, a) && o[a][p]) {
                return true;
            }
        }
        return false;
    }

    boolean holds(int planks) {
        if (!bits(planks) || !quiet(planks)) {
            return false;
        }
        for (int p = 0; p < 8; p++) {
            for (int a = 0; a < 8; a++) {
                if (in(planks, p) && w.things.objects[a][p] && !hits(w.things.objects, planks, a)) {
                    return false;
                }
            }
        }
        return true;
    }

    private List<Integer> rounds(boolean[][] o) {
        List<Integer> out = new ArrayList<>();
        int set = 0;
        while (true) {
            int more = 0;
            for (int p = 0; p < w.weights.size(); p++) {
                boolean fine = true;
                for (int a = 0; a < 8; a++) {
                    if (o[a][p] && !hits(o, set, a)) {
                        fine = false;
                    }
                }
                more |= fine ? 1 << p : 0;
            }
            if (more == set) {
                return out;
            }
            out.add(more);
            set = more;
        }
    }

    private int grounded(boolean[][] o) {
        List<Integer> r = rounds(o);
        return r.isEmpty() ? 0 : r.get(r.size() - 1);
    }

    int grounded() {
        return grounded(w.things.objects);
    }

    int round(int plank) {
        List<Integer> r = rounds(w.things.objects);
        for (int i = 0; i < r.size(); i++) {
            if (told(plank) && in(r.get(i), plank)) {
                return i;
            }
        }
        return NONE;
    }

    private int pick(List<Integer> list, int i) {
        return i == NONE ? list.size() : i >= 0 && i < list.size() ? list.get(i) : -2;
    }

    int stables(int i) {
        List<Integer> out = new ArrayList<>();
        for (int s = 0; s < 1 << w.weights.size(); s++) {
            boolean fine = quiet(s);
            for (int p = 0; p < w.weights.size(); p++) {
                fine = fine && (in(s, p) || hits(w.things.objects, s, p));
            }
            if (fine) {
                out.add(s);
            }
        }
        return pick(out, i);
    }

    private List<Integer> preferredSets() {
        List<Integer> holding = new ArrayList<>();
        for (int s = 0; s < 1 << w.weights.size(); s++) {
            if (holds(s)) {
                holding.add(s);
            }
        }
        List<Integer> out = new ArrayList<>();
        for (int s : holding) {
            if (holding.stream().noneMatch(m -> m != s && (m | s) == m)) {
                out.add(s);
            }
        }
        return out;
    }

    int preferred(int i) {
        return pick(preferredSets(), i);
    }

    int naive(int i) {
        List<Integer> quiet = new ArrayList<>();
        for (int s = 0; s < 1 << w.weights.size(); s++) {
            if (quiet(s)) {
                quiet.add(s);
            }
        }
        List<Integer> out = new ArrayList<>();
        for (int s : quiet) {
            if (quiet.stream().noneMatch(m -> m != s && (m | s) == m)) {
                out.add(s);
            }
        }
        return pick(out, i);
    }

    int ring(int plank) {
        if (!told(plank)) {
            return NONE;
        }
        int[] far = new int[8];
        Arrays.fill(far, 99);
        Deque<Integer> line = new ArrayDeque<>();
        for (int p = 0; p < 8; p++) {
            if (w.things.objects[plank][p]) {
                far[p] = 1;
                line.add(p);
            }
        }
        while (!line.isEmpty()) {
            int p = line.poll();
            for (int q = 0; q < 8; q++) {
                if (w.things.objects[p][q] && far[q] == 99) {
                    far[q] = far[p] + 1;
                    line.add(q);
                }
            }
        }
        return far[plank] == 99 ? NONE : far[plank];
    }

    int inSets(int plank, boolean all) {
        if (!told(plank)) {
            return NONE;
        }
        List<Integer> sets = preferredSets();
        int with = (int) sets.stream().filter(s -> in(s, plank)).count();
        return all ? with == sets.size() ? 1 : 0 : with;
    }

    int repair(int plank, boolean many) {
        if (!told(plank)) {
            return -2;
        }
        List<int[]> there = new ArrayList<>();
        for (int a = 0; a < 8; a++) {
            for (int b = 0; b < 8; b++) {
                if (w.things.objects[a][b]) {
                    there.add(new int[] {a, b});
                }
            }
        }
        boolean[][] o = w.things.copy().objects;
        if (in(grounded(o), plank)) {
            return many ? 0 : NONE;
        }
        int n = there.size();
        for (int size = 1; size <= 3; size++) {
            for (int i = 0; i < n; i++) {
                for (int j = size > 1 ? i + 1 : n - 1; j < n; j++) {
                    for (int k = size > 2 ? j + 1 : n - 1; k < n; k++) {
                        int[][] drop = size == 1 ? new int[][] {there.get(i)}
                                : size == 2 ? new int[][] {there.get(i), there.get(j)}
                                : new int[][] {there.get(i), there.get(j), there.get(k)};
                        for (int[] d : drop) {
                            o[d[0]][d[1]] = false;
                        }
                        boolean fine = in(grounded(o), plank);
                        for (int[] d : drop) {
                            o[d[0]][d[1]] = true;
                        }
                        if (fine) {
                            return many ? size : there.get(i)[0] * 10 + there.get(i)[1];
                        }
                    }
                }
            }
        }
        return -2;
    }

    int heaviest(boolean weight) {
        int best = 0;
        int most = 0;
        for (int s = (1 << w.weights.size()) - 1; s >= 0; s--) {
            int sum = 0;
            for (int p = 0; p < w.weights.size(); p++) {
                sum += in(s, p) ? w.weights.get(p) : 0;
            }
            if (quiet(s) && sum >= most) {
                most = sum;
                best = s;
            }
        }
        return weight ? most : best;
    }

    int explain(int planks, int i) {
        if (!bits(planks)) {
            return -2;
        }
        List<Integer> out = new ArrayList<>();
        for (int a = 0; a < w.weights.size(); a++) {
            for (int b = 0; b < w.weights.size(); b++) {
                boolean[][] o = w.things.copy().objects;
                o[a][b] = !o[a][b];
                if (grounded(o) == planks) {
                    out.add(a * 10 + b);
                }
            }
        }
        return pick(out, i);
    }

    // ---- orders

    private long ways(int left, int done, int all) {
        if (left == 0) {
            return 1;
        }
        long n = 0;
        for (int p = 0; p < w.weights.size(); p++) {
            if (in(left, p) && (w.rests.get(p) & all & ~done) == 0) {
                n += ways(left & ~(1 << p), done | 1 << p, all);
            }
        }
        return n;
    }

    long orders(int planks) {
        return bits(planks) ? ways(planks, 0, planks) : NONE;
    }

    int order(int planks, int i) {
        if (!bits(planks)) {
            return -2;
        }
        List<Integer> out = new ArrayList<>();
        int done = 0;
        while (done != planks) {
            for (int p = 0; p < w.weights.size(); p++) {
                if (in(planks, p) && !in(done, p) && (w.rests.get(p) & planks & ~done) == 0) {
                    out.add(p);
                    done |= 1 << p;
                    break;
                }
            }
        }
        return i == NONE ? -2 : pick(out, i);
    }

    int all(int plank) {
        if (!told(plank)) {
            return NONE;
        }
        int out = w.rests.get(plank);
        for (int p = 0; p < 8; p++) {
            if (in(w.rests.get(plank), p)) {
                out |= all(p);
            }
        }
        return out;
    }

    int over(int plank) {
        if (!told(plank)) {
            return NONE;
        }
        int out = 0;
        for (int p = 0; p < w.weights.size(); p++) {
            out |= in(all(p), plank) ? 1 << p : 0;
        }
        return out;
    }

    int high(int plank) {
        if (!told(plank)) {
            return NONE;
        }
        int out = 0;
        for (int p = 0; p < 8; p++) {
            if (in(w.rests.get(plank), p)) {
                out = Math.max(out, 1 + high(p));
            }
        }
        return out;
    }

    int least(int plank) {
        return told(plank) ? all(plank) & those(w.things, 0) | 1 << plank : NONE;
    }

    long stand(int planks, boolean low) {
        if (!bits(planks)) {
            return NONE;
        }
        BigInteger upper = BigInteger.ONE;
        BigInteger lower = BigInteger.ONE;
        for (int p : ups(w.things)) {
            if (in(planks, p)) {
                upper = upper.multiply(BigInteger.valueOf(10 - falls(w.ruling, w.things, p)));
                lower = lower.multiply(BigInteger.TEN);
            }
        }
        BigInteger g = upper.gcd(lower);
        return (low ? lower : upper).divide(g).longValueExact();
    }

    // ---- votes

    private static List<Integer> digits(int order) {
        if (order < 0 || order > 9999) {
            return null;
        }
        List<Integer> out = List.of(order / 1000, order / 100 % 10, order / 10 % 10, order % 10);
        return Set.copyOf(out).equals(Set.of(0, 1, 2, 3)) ? out : null;
    }

    int vote(int order) {
        if (order == NONE) {
            w.votes.clear();
            return 0;
        }
        if (digits(order) == null || w.votes.size() == 7) {
            return -2;
        }
        w.votes.add(order);
        return w.votes.size();
    }

    private int more(int a, int b) {
        int n = 0;
        for (int v : w.votes) {
            n += digits(v).indexOf(a) < digits(v).indexOf(b) ? 1 : -1;
        }
        return n;
    }

    int beats(int a, int b) {
        return a < 0 || a > 3 || b < 0 || b > 3 || a == b ? -100 : more(a, b);
    }

    int agenda(int order) {
        List<Integer> d = digits(order);
        if (d == null) {
            return NONE;
        }
        int left = d.get(0);
        for (int next : d.subList(1, 4)) {
            left = more(left, next) >= 0 ? left : next;
        }
        return left;
    }

    int lead(int option) {
        for (int order = 0; order < 10000; order++) {
            if (option >= 0 && option < 4 && agenda(order) == option) {
                return order;
            }
        }
        return NONE;
    }

    int winner(int how) {
        if (how < 0 || how > 2) {
            return NONE;
        }
        int[] points = new int[4];
        for (int o = 0; o < 4; o++) {
            for (int v : w.votes) {
                int at = digits(v).indexOf(o);
                points[o] += how == 1 ? 3 - at : at == 0 ? 1 : 0;
            }
        }
        for (int o = 0; o < 4; o++) {
            boolean wins = true;
            for (int p = 0; p < 4; p++) {
                wins = wins && (p == o || (how == 0 ? more(o, p) > 0 : points[o] > points[p]));
            }
            if (wins) {
                return o;
            }
        }
        return NONE;
    }

    int score(int option) {
        if (option < 0 || option > 3) {
            return -100;
        }
        int n = 0;
        for (int o = 0; o < 4; o++) {
            n += o == option ? 0 : more(option, o) > 0 ? 1 : more(option, o) < 0 ? -1 : 0;
        }
        return n;
    }

    int top() {
        for (int size = 1; size <= 4; size++) {
            for (int s = 1; s < 16; s++) {
                boolean fine = Integer.bitCount(s) == size;
                for (int a = 0; a < 4; a++) {
                    for (int b = 0; b < 4; b++) {
                        fine = fine && (!in(s, a) || in(s, b) || more(a, b) > 0);
                    }
                }
                if (fine) {
                    return s;
                }
            }
        }
        throw new IllegalStateException();
    }

    // ---- the rest

    int said(int plank, int falls) {
        if (plank == NONE) {
            w.said.clear();
            return 0;
        }
        if (!told(plank) || falls < 0 || falls > 10 || w.said.size() == 8) {
            return -2;
        }
        w.said.add(new int[] {plank, falls});
        return w.said.size();
    }

    int whose() {
        int out = 0;
        for (int t = 0; t < w.texts.size(); t++) {
            boolean fine = true;
            for (int[] s : w.said) {
                fine = fine && falls(t, w.things, s[0]) == s[1];
            }
            out |= fine ? 1 << t : 0;
        }
        return out;
    }

    int gaps() {
        int out = 0;
        for (int p = 0; p < w.weights.size(); p++) {
            boolean fine = w.things.how[p] == 0;
            for (int q = 0; q < p; q++) {
                fine = fine && (!in(w.rests.get(p), q) || w.things.how[q] != 0);
            }
            out |= fine ? 1 << p : 0;
        }
        return out;
    }

    int unopposed() {
        int out = 0;
        for (int p = 0; p < w.weights.size(); p++) {
            out |= of(p, 4) == 0 ? 1 << p : 0;
        }
        return out;
    }

    int atOdds() {
        int out = 0;
        for (int p = 0; p < w.weights.size(); p++) {
            out |= w.things.objects[p][p] ? 1 << p : 0;
        }
        return out;
    }

    int loaded() {
        int best = NONE;
        long most = 0;
        for (int p : ups(w.things)) {
            long n = ups(w.things).stream().filter(q -> in(w.rests.get(q), p)).count();
            if (n > most) {
                most = n;
                best = p;
            }
        }
        return best;
    }

    int ledger(int what) {
        return what < 0 || what > 3 ? -2 : (int) w.things.book.stream().filter(l -> l.what == what).count();
    }

    int image() {
        kept = w.copy();
        return w.things.hour;
    }

    int back() {
        w = kept.copy();
        return w.things.hour;
    }

    int about(int what) {
        return switch (what) {
            case 0 -> w.weights.size();
            case 1 -> w.texts.size();
            case 2 -> w.ruling;
            case 3 -> w.steps.size();
            case 4 -> w.votes.size();
            case 5 -> w.said.size();
            case 6 -> tape.size();
            default -> -2;
        };
    }
}
