import java.util.Arrays;

/**
 * Planks that rest on one another, objections between them, wind, and laws of what may be
 * put up and how often one falls. The project's document promises what each call answers.
 */
public final class ScaffoldReasons {
    public static final int NONE = -1;

    private static final int NO_SUCH = -2;
    private static final int NOT_OF_IT = -100;

    private static final int PLANKS_MOST = 8;
    private static final int ROW_MASK = 255;
    private static final int SETS_MOST = 256;
    private static final int OBJECTIONS_MOST = 64;
    private static final int WEIGHT_MOST = 9;
    private static final int HOUR_MOST = 9999;
    private static final int HOURS_AT_ONCE = 60;
    private static final int BOOK_MOST = 30;
    private static final int STEPS_MOST = 30;
    private static final int TEXTS_MOST = 4;
    private static final int TAPE_MOST = 300;
    private static final int FED_AT_ONCE = 20;
    private static final int CLAUSES_MOST = 24;
    private static final int NUMBER_MOST = 9999;
    private static final int OPEN_MOST = 8;
    private static final int VALUE_MOST = 1000000;
    private static final int PUTS_MOST = 99;
    private static final int ODDS_MOST = 10;
    private static final int OPTIONS = 4;
    private static final int ALL_OPTIONS = 15;
    private static final int LAST_ORDER = 3210;
    private static final int VOTES_MOST = 7;
    private static final int SAID_MOST = 8;
    private static final int SEED_MOST = 9999;
    private static final int YEARS_MOST = 40;
    private static final int DROPPED_MOST = 3;
    private static final int FIRST_X = 337;
    private static final int ON_NONE = 9;
    private static final int BITS_OF_INT = 32;

    // What a line of the book tells of.
    private static final int PUT_UP = 0;
    private static final int TAKEN_DOWN = 1;
    private static final int FALLEN = 2;
    private static final int CONCEDED = 3;

    // The faults of a text.
    private static final int MISPLACED = 1;
    private static final int WRONG_NUMBER = 2;
    private static final int TOO_DEEP = 3;
    private static final int LAW_AGAIN = 4;
    private static final int WRONG_NAME = 5;
    private static final int TOO_MANY_CLAUSES = 6;

    // A word's kind is its place in this row: first those that begin a clause, from hour on the
    // names (hour is both), then the others.
    private static final String WORDS = "puts falls plank put take concede object drop hour wind number weight up against rests load on to of bits heavy if then else end or and not";
    private static final int W_PUTS = 0;
    private static final int W_FALLS = 1;
    private static final int W_PLANK = 2;
    private static final int W_PUT = 3;
    private static final int W_TAKE = 4;
    private static final int W_CONCEDE = 5;
    private static final int W_OBJECT = 6;
    private static final int W_DROP = 7;
    private static final int W_HOUR = 8;
    private static final int W_WIND = 9;
    private static final int W_NUMBER = 10;
    private static final int W_WEIGHT = 11;
    private static final int W_UP = 12;
    private static final int W_AGAINST = 13;
    private static final int W_RESTS = 14;
    private static final int W_LOAD = 15;
    private static final int W_ON = 16;
    private static final int W_TO = 17;
    private static final int W_OF = 18;
    private static final int W_BITS = 19;
    private static final int W_HEAVY = 20;
    private static final int W_IF = 21;
    private static final int W_THEN = 22;
    private static final int W_ELSE = 23;
    private static final int W_END = 24;
    private static final int W_OR = 25;
    private static final int W_AND = 26;
    private static final int W_NOT = 27;

    // A sign's kind is its place in this row behind the words; the two double ones follow.
    private static final String SIGNS = "<>=#+-*/();";
    private static final int SIGNS_FROM = 28;
    private static final int S_LESS = 28;
    private static final int S_MORE = 29;
    private static final int S_LIKE = 30;
    private static final int S_UNLIKE = 31;
    private static final int S_PLUS = 32;
    private static final int S_MINUS = 33;
    private static final int S_TIMES = 34;
    private static final int S_BY = 35;
    private static final int S_OPENING = 36;
    private static final int S_CLOSING = 37;
    private static final int S_SEMICOLON = 38;
    private static final int S_AT_MOST = 39;
    private static final int S_AT_LEAST = 40;
    private static final int T_NUMBER = 41;
    private static final int T_STRANGE = 42;
    private static final int T_END = 43;

    // What a law's code has beside the kinds above.
    private static final int C_OPPOSITE = 44;
    private static final int C_SKIP = 45;
    private static final int C_SKIP_UNLESS = 46;

    private static final int KIND_BITS = 6;
    private static final int KIND_MASK = 63;

    private final Site site = new Site();
    private final Site kept = new Site();
    private final Script[] scripts = new Script[TEXTS_MOST];
    private final Tape tape = new Tape();
    private final Reader reader = new Reader();
    private final Scale scale = new Scale();
    private final Disputes disputes = new Disputes();
    private final Moment ahead = new Moment();
    private boolean hasRead;

    public ScaffoldReasons() {
        for (int i = 0; i < scripts.length; i++) {
            scripts[i] = new Script();
        }
    }

    public int plank(int weight, int rests) {
        return site.tellPlank(weight, rests);
    }

    public int feed(int a, int b, int c, int d, int e) {
        if (tape.length + FED_AT_ONCE > TAPE_MOST) {
            return NONE;
        }
        tape.addFour(a);
        tape.addFour(b);
        tape.addFour(c);
        tape.addFour(d);
        tape.addFour(e);
        return tape.length;
    }

    public int end(int n) {
        if (n < 0 || n > tape.length) {
            return NONE;
        }
        tape.length = n;
        return n;
    }

    public int text() {
        int number = site.textCount;
        if (number < 0 || number >= scripts.length) {
            return NONE;
        }
        hasRead = true;
        tape.cut();
        boolean faultless = reader.readInto(scripts[number], tape);
        tape.length = 0;
        if (!faultless) {
            return NONE;
        }
        site.textCount = number + 1;
        return number;
    }

    public int fault(int what) {
        if (!hasRead || what < 0 || what > 1) {
            return NONE;
        }
        return what == 0 ? reader.faultKind : reader.faultPlace;
    }

    public boolean by(int text) {
        if (text != NONE && scriptOf(text) == null) {
            return false;
        }
        site.ruling = text;
        return true;
    }

    public boolean put(int plank) {
        return puttingUp(plank, true);
    }

    public boolean take(int plank) {
        return takingDown(plank, true);
    }

    public boolean concede(int plank) {
        return conceding(plank, true);
    }

    public boolean object(int a, int b, boolean is) {
        return objecting(a, b, is, true);
    }

    public int hour(int n) {
        if (n < 1 || n > HOURS_AT_ONCE || site.now.hour + n > HOUR_MOST) {
            return NONE;
        }
        int fallen = 0;
        for (int i = 0; i < n; i++) {
            site.keepStep();
            fallen += passHour(site.now);
        }
        return fallen;
    }

    public int played(int text) {
        Script script = scriptOf(text);
        if (script == null) {
            return NO_SUCH;
        }
        for (int i = 0; i < script.clauseCount; i++) {
            boolean isDone = script.kindOf(i) == W_HOUR ? playHours(script.firstOf(i)) : playMove(script, i);
            if (!isDone) {
                return i;
            }
        }
        return NONE;
    }

    public int years(int seed, int n) {
        if (seed < 0 || seed > SEED_MOST || n < 1 || n > YEARS_MOST) {
            return NONE;
        }
        site.keepStep();
        site.now.x = seed * 2 + FIRST_X;
        for (int i = 0; i < n; i++) {
            int x = site.now.x;
            site.now.turnX();
            passYear(x);
        }
        return site.now.hour;
    }

    public int undo() {
        return site.takeBack();
    }

    public int of(int plank, int what) {
        if (!site.isPlank(plank)) {
            return NOT_OF_IT;
        }
        switch (what) {
            case 0:
                return site.weights[plank];
            case 1:
                return site.rests[plank];
            case 2:
                return howItIs(plank);
            case 3:
                return Disputes.targets(site.now.objections, 1 << plank);
            case 4:
                return Disputes.attackers(site.now.objections, 1 << plank);
            case 5:
                return scale.putsOf(ruling(), site, site.now, plank);
            case 6:
                return scale.fallsOf(ruling(), site, site.now, plank);
            default:
                return NOT_OF_IT;
        }
    }

    public int is(int what) {
        switch (what) {
            case 0:
                return site.now.hour;
            case 1:
                return site.now.x;
            case 2:
                return site.now.wind;
            case 3:
                return site.now.up;
            case 4:
                return site.now.conceded;
            default:
                return NO_SUCH;
        }
    }

    public int book(int i, int what) {
        if (i == NONE) {
            return site.now.lineCount;
        }
        return site.now.lineField(i, what);
    }

    public int foretold(int n) {
        if (n < 1 || n > HOURS_AT_ONCE) {
            return NO_SUCH;
        }
        ahead.copyFrom(site.now);
        for (int i = 0; i < n && ahead.hour < HOUR_MOST; i++) {
            passHour(ahead);
        }
        return ahead.up;
    }

    public boolean holds(int planks) {
        return site.areBits(planks) && Disputes.isHolding(site.now.objections, planks);
    }

    public int grounded() {
        return Disputes.groundedBits(site.now.objections, site.told());
    }

    public int round(int plank) {
        if (!site.isPlank(plank)) {
            return NONE;
        }
        return Disputes.roundOf(site.now.objections, site.told(), plank);
    }

    public int stables(int i) {
        disputes.findStable(site.now.objections, site.told());
        return disputes.answer(i);
    }

    public int preferred(int i) {
        disputes.findPreferred(site.now.objections, site.told());
        return disputes.answer(i);
    }

    public int naive(int i) {
        disputes.findNaive(site.now.objections, site.told());
        return disputes.answer(i);
    }

    public int ring(int plank) {
        if (!site.isPlank(plank)) {
            return NONE;
        }
        return Disputes.ringOf(site.now.objections, plank);
    }

    public int inSets(int plank, boolean all) {
        if (!site.isPlank(plank)) {
            return NONE;
        }
        disputes.findPreferred(site.now.objections, site.told());
        int with = disputes.foundWith(1 << plank);
        if (!all) {
            return with;
        }
        return with == disputes.foundCount ? 1 : 0;
    }

    public int repair(int plank, boolean many) {
        if (!site.isPlank(plank)) {
            return NO_SUCH;
        }
        for (int count = 0; count <= DROPPED_MOST; count++) {
            int first = Disputes.firstToDrop(site.now.objections, site.told(), plank, 0, count);
            if (first != NO_SUCH) {
                return many ? count : asTens(first);
            }
        }
        return NO_SUCH;
    }

    public int heaviest(boolean weight) {
        int best = 0;
        int most = 0;
        for (int set = 0; set <= site.told(); set++) {
            int together = Frame.weightOf(site, set);
            if (together > most && Disputes.isFree(site.now.objections, set)) {
                most = together;
                best = set;
            }
        }
        return weight ? most : best;
    }

    public int explain(int planks, int i) {
        if (!site.areBits(planks)) {
            return NO_SUCH;
        }
        disputes.findExplaining(site.now.objections, site.told(), planks);
        return disputes.answer(i);
    }

    public long orders(int planks) {
        if (!site.areBits(planks)) {
            return NONE;
        }
        return disputes.countOrders(site.rests, planks);
    }

    public int order(int planks, int i) {
        if (!site.areBits(planks) || i < 0) {
            return NO_SUCH;
        }
        // A plank rests on planks told ahead of it alone, so that the lowest left can always come next.
        int before = 0;
        for (int plank = 0; plank < PLANKS_MOST; plank++) {
            if (hasBit(planks, plank)) {
                if (before == i) {
                    return plank;
                }
                before++;
            }
        }
        return NO_SUCH;
    }

    public int all(int plank) {
        return site.isPlank(plank) ? Frame.allUnder(site, plank) : NONE;
    }

    public int over(int plank) {
        return site.isPlank(plank) ? Frame.allOver(site, plank) : NONE;
    }

    public int high(int plank) {
        return site.isPlank(plank) ? Frame.heightOf(site, plank) : NONE;
    }

    public int least(int plank) {
        if (!site.isPlank(plank)) {
            return NONE;
        }
        return (Frame.allUnder(site, plank) & ~site.now.standing()) | (1 << plank);
    }

    public long stand(int planks, boolean low) {
        if (!site.areBits(planks)) {
            return NONE;
        }
        long upper = 1;
        long lower = 1;
        for (int plank = 0; plank < PLANKS_MOST; plank++) {
            if (hasBit(planks & site.now.up, plank)) {
                upper *= ODDS_MOST - scale.fallsOf(ruling(), site, site.now, plank);
                lower *= ODDS_MOST;
            }
        }
        long common = commonDivisor(upper, lower);
        if (common < 1) {
            return NONE;
        }
        return low ? lower / common : upper / common;
    }

    public int vote(int order) {
        if (order == NONE) {
            site.voteCount = 0;
            return 0;
        }
        if (!Ballots.isOrder(order) || site.voteCount >= site.votes.length) {
            return NO_SUCH;
        }
        site.votes[site.voteCount] = order;
        site.voteCount++;
        return site.voteCount;
    }

    public int beats(int a, int b) {
        if (!Ballots.isOption(a) || !Ballots.isOption(b) || a == b) {
            return NOT_OF_IT;
        }
        return Ballots.margin(site, a, b);
    }

    public int agenda(int order) {
        return Ballots.isOrder(order) ? Ballots.leftBy(site, order) : NONE;
    }

    public int lead(int option) {
        if (!Ballots.isOption(option)) {
            return NONE;
        }
        for (int order = 0; order <= LAST_ORDER; order++) {
            if (Ballots.isOrder(order) && Ballots.leftBy(site, order) == option) {
                return order;
            }
        }
        return NONE;
    }

    public int winner(int how) {
        switch (how) {
            case 0:
                return Ballots.pairsWinner(site);
            case 1:
                return Ballots.countsWinner(site, false);
            case 2:
                return Ballots.countsWinner(site, true);
            default:
                return NONE;
        }
    }

    public int score(int option) {
        return Ballots.isOption(option) ? Ballots.scoreOf(site, option) : NOT_OF_IT;
    }

    public int top() {
        int best = ALL_OPTIONS;
        for (int set = 1; set < ALL_OPTIONS; set++) {
            if (Integer.bitCount(set) < Integer.bitCount(best) && Ballots.isAhead(site, set)) {
                best = set;
            }
        }
        return best;
    }

    public int said(int plank, int falls) {
        if (plank == NONE) {
            site.saidCount = 0;
            return 0;
        }
        if (!site.isPlank(plank) || falls < 0 || falls > ODDS_MOST || site.saidCount >= SAID_MOST) {
            return NO_SUCH;
        }
        site.saidPlanks[site.saidCount] = plank;
        site.saidFalls[site.saidCount] = falls;
        site.saidCount++;
        return site.saidCount;
    }

    public int whose() {
        int texts = 0;
        for (int text = 0; text < site.textCount; text++) {
            if (saysAllSaid(scriptOf(text))) {
                texts |= 1 << text;
            }
        }
        return texts;
    }

    public int gaps() {
        int found = 0;
        for (int plank = 0; plank < site.plankCount; plank++) {
            if (isGap(plank)) {
                found |= 1 << plank;
            }
        }
        return found;
    }

    public int unopposed() {
        return site.told() & ~Disputes.targets(site.now.objections, site.told());
    }

    public int atOdds() {
        int found = 0;
        for (int plank = 0; plank < site.plankCount; plank++) {
            found |= Disputes.targets(site.now.objections, 1 << plank) & (1 << plank);
        }
        return found;
    }

    public int loaded() {
        int best = NONE;
        int most = 0;
        for (int plank = 0; plank < site.plankCount; plank++) {
            int load = Integer.bitCount(Frame.restingOn(site, plank) & site.now.up);
            if (hasBit(site.now.up, plank) && load > most) {
                most = load;
                best = plank;
            }
        }
        return best;
    }

    public int ledger(int what) {
        if (what < PUT_UP || what > CONCEDED) {
            return NO_SUCH;
        }
        return site.now.linesOf(what);
    }

    public int image() {
        kept.copyFrom(site);
        return site.now.hour;
    }

    public int back() {
        site.copyFrom(kept);
        return site.now.hour;
    }

    public int about(int what) {
        switch (what) {
            case 0:
                return site.plankCount;
            case 1:
                return site.textCount;
            case 2:
                return site.ruling;
            case 3:
                return site.stepCount;
            case 4:
                return site.voteCount;
            case 5:
                return site.saidCount;
            case 6:
                return tape.length;
            default:
                return NO_SUCH;
        }
    }

    private Script scriptOf(int text) {
        if (text < 0 || text >= site.textCount || text >= scripts.length) {
            return null;
        }
        return scripts[text];
    }

    private Script ruling() {
        return scriptOf(site.ruling);
    }

    private int howItIs(int plank) {
        if (hasBit(site.now.conceded, plank)) {
            return 2;
        }
        return hasBit(site.now.up, plank) ? 1 : 0;
    }

    private boolean isGap(int plank) {
        int standing = site.now.standing();
        return !hasBit(standing, plank) && (site.rests[plank] & ~standing) == 0;
    }

    // Years are one step, so the moves that they make keep none of their own.
    private boolean puttingUp(int plank, boolean asStep) {
        if (!site.isPlank(plank) || !isGap(plank) || scale.putsOf(ruling(), site, site.now, plank) <= 0) {
            return false;
        }
        if (asStep) {
            site.keepStep();
        }
        site.now.up |= 1 << plank;
        site.now.write(plank, PUT_UP);
        return true;
    }

    private boolean takingDown(int plank, boolean asStep) {
        if (!site.isPlank(plank) || !hasBit(site.now.up, plank)
                || (Frame.restingOn(site, plank) & site.now.up) != 0) {
            return false;
        }
        if (asStep) {
            site.keepStep();
        }
        site.now.up &= ~(1 << plank);
        site.now.write(plank, TAKEN_DOWN);
        return true;
    }

    private boolean conceding(int plank, boolean asStep) {
        if (!site.isPlank(plank) || !hasBit(site.now.up, plank)
                || !hasBit(Disputes.groundedBits(site.now.objections, site.told()), plank)) {
            return false;
        }
        if (asStep) {
            site.keepStep();
        }
        site.now.up &= ~(1 << plank);
        site.now.conceded |= 1 << plank;
        site.now.write(plank, CONCEDED);
        return true;
    }

    private boolean objecting(int a, int b, boolean is, boolean asStep) {
        if (!site.isPlank(a) || !site.isPlank(b) || Disputes.objects(site.now.objections, a, b) == is) {
            return false;
        }
        if (asStep) {
            site.keepStep();
        }
        site.now.objections ^= Disputes.objection(a, b);
        return true;
    }

    private int passHour(Moment moment) {
        int fallen = 0;
        moment.wind = moment.draw(ODDS_MOST);
        for (int plank = 0; plank < site.plankCount; plank++) {
            if (hasBit(moment.up, plank)
                    && moment.draw(ODDS_MOST) < scale.fallsOf(ruling(), site, moment, plank)) {
                fallen += letFall(moment, plank);
            }
        }
        moment.hour++;
        return fallen;
    }

    private int letFall(Moment moment, int plank) {
        int falling = 1 << plank;
        // What rests on a plank was told behind it, so one walk upwards finds all that fall with it.
        for (int other = plank + 1; other < site.plankCount; other++) {
            if (hasBit(moment.up, other) && (site.rests[other] & falling) != 0) {
                falling |= 1 << other;
            }
        }
        moment.up &= ~falling;
        for (int other = plank; other < site.plankCount; other++) {
            if (hasBit(falling, other)) {
                moment.write(other, FALLEN);
            }
        }
        return Integer.bitCount(falling);
    }

    private boolean playMove(Script script, int clause) {
        int first = script.firstOf(clause);
        int second = script.secondOf(clause);
        switch (script.kindOf(clause)) {
            case W_PLANK:
                return site.tellPlank(first, second == ON_NONE ? 0 : 1 << second) != NONE;
            case W_PUT:
                return puttingUp(first, true);
            case W_TAKE:
                return takingDown(first, true);
            case W_CONCEDE:
                return conceding(first, true);
            case W_OBJECT:
                return objecting(first, second, true, true);
            case W_DROP:
                return objecting(first, second, false, true);
            default:
                return true;
        }
    }

    private boolean playHours(int n) {
        for (int i = 0; i < n; i++) {
            if (site.now.hour >= HOUR_MOST) {
                return false;
            }
            site.keepStep();
            passHour(site.now);
        }
        return true;
    }

    private void passYear(int x) {
        int what = x % 7;
        if (what > 3) {
            if (site.now.hour < HOUR_MOST) {
                passHour(site.now);
            }
            return;
        }
        int count = site.plankCount;
        if (count < 1) {
            return;
        }
        int plank = x % count;
        if (what == 0) {
            puttingUp(plank, false);
        } else if (what == 1) {
            takingDown(plank, false);
        } else if (what == 2) {
            conceding(plank, false);
        } else {
            int other = x / 7 % count;
            objecting(plank, other, !Disputes.objects(site.now.objections, plank, other), false);
        }
    }

    private boolean saysAllSaid(Script script) {
        for (int i = 0; i < site.saidCount && i < SAID_MOST; i++) {
            if (scale.fallsOf(script, site, site.now, site.saidPlanks[i]) != site.saidFalls[i]) {
                return false;
            }
        }
        return true;
    }

    private static boolean hasBit(int bits, int place) {
        return place >= 0 && place < BITS_OF_INT && (bits >>> place & 1) == 1;
    }

    private static int asTens(int objection) {
        return objection < 0 ? NONE : objection / PLANKS_MOST * 10 + objection % PLANKS_MOST;
    }

    private static long commonDivisor(long a, long b) {
        long greater = a;
        long lesser = b;
        // Euclid halves at least every second time: 200 is far more than a long needs.
        for (int i = 0; i < 200 && lesser != 0; i++) {
            long rest = greater % lesser;
            greater = lesser;
            lesser = rest;
        }
        return greater;
    }

    /** What a step takes back. */
    private static final class Moment {
        int up;
        int conceded;
        /** Bit 8 * a + b: a objects to b. */
        long objections;
        int wind;
        int hour;
        int x = FIRST_X;
        final int[] lines = new int[BOOK_MOST];
        int lineCount;

        void copyFrom(Moment other) {
            up = other.up;
            conceded = other.conceded;
            objections = other.objections;
            wind = other.wind;
            hour = other.hour;
            x = other.x;
            System.arraycopy(other.lines, 0, lines, 0, BOOK_MOST);
            lineCount = other.lineCount;
        }

        int standing() {
            return up | conceded;
        }

        void turnX() {
            x = (x * 593 + 461) % 30829;
        }

        int draw(int by) {
            int drawn = by < 1 ? 0 : x % by;
            turnX();
            return drawn;
        }

        void write(int plank, int what) {
            if (lineCount >= BOOK_MOST) {
                System.arraycopy(lines, 1, lines, 0, BOOK_MOST - 1);
                lineCount = BOOK_MOST - 1;
            }
            lines[lineCount] = hour << 9 | plank << 6 | what << 4 | wind;
            lineCount++;
        }

        int lineField(int i, int what) {
            if (i < 0 || i >= lineCount || i >= BOOK_MOST) {
                return NO_SUCH;
            }
            int line = lines[i];
            switch (what) {
                case 0:
                    return line >> 9;
                case 1:
                    return line >> 6 & 7;
                case 2:
                    return line >> 4 & 3;
                case 3:
                    return line & 15;
                default:
                    return NO_SUCH;
            }
        }

        int linesOf(int what) {
            int count = 0;
            for (int i = 0; i < lineCount; i++) {
                if (lineField(i, 2) == what) {
                    count++;
                }
            }
            return count;
        }
    }

    /** All that an image keeps; texts are told once and never changed, so their count is enough. */
    private static final class Site {
        int plankCount;
        final int[] weights = new int[PLANKS_MOST];
        final int[] rests = new int[PLANKS_MOST];
        final Moment now = new Moment();
        final Moment[] steps = new Moment[STEPS_MOST];
        int firstStep;
        int stepCount;
        int textCount;
        int ruling = NONE;
        final int[] votes = new int[VOTES_MOST];
        int voteCount;
        final int[] saidPlanks = new int[SAID_MOST];
        final int[] saidFalls = new int[SAID_MOST];
        int saidCount;

        Site() {
            for (int i = 0; i < steps.length; i++) {
                steps[i] = new Moment();
            }
        }

        void copyFrom(Site other) {
            plankCount = other.plankCount;
            System.arraycopy(other.weights, 0, weights, 0, PLANKS_MOST);
            System.arraycopy(other.rests, 0, rests, 0, PLANKS_MOST);
            now.copyFrom(other.now);
            for (int i = 0; i < STEPS_MOST; i++) {
                copyStep(i, other.steps[i]);
            }
            firstStep = other.firstStep;
            stepCount = other.stepCount;
            textCount = other.textCount;
            ruling = other.ruling;
            System.arraycopy(other.votes, 0, votes, 0, VOTES_MOST);
            voteCount = other.voteCount;
            System.arraycopy(other.saidPlanks, 0, saidPlanks, 0, SAID_MOST);
            System.arraycopy(other.saidFalls, 0, saidFalls, 0, SAID_MOST);
            saidCount = other.saidCount;
        }

        boolean isPlank(int plank) {
            return plank >= 0 && plank < plankCount;
        }

        int told() {
            return (1 << plankCount) - 1;
        }

        boolean areBits(int planks) {
            return (planks & ~told()) == 0;
        }

        int tellPlank(int weight, int restsOn) {
            if (weight < 1 || weight > WEIGHT_MOST || !areBits(restsOn) || plankCount >= PLANKS_MOST) {
                return NONE;
            }
            weights[plankCount] = weight;
            rests[plankCount] = restsOn;
            plankCount++;
            return plankCount - 1;
        }

        void keepStep() {
            copyStep((firstStep + stepCount) % STEPS_MOST, now);
            if (stepCount < STEPS_MOST) {
                stepCount++;
            } else {
                firstStep = (firstStep + 1) % STEPS_MOST;
            }
        }

        int takeBack() {
            if (stepCount < 1) {
                return NONE;
            }
            stepCount--;
            Moment step = steps[(firstStep + stepCount) % STEPS_MOST];
            if (step != null) {
                now.copyFrom(step);
            }
            return stepCount;
        }

        private void copyStep(int place, Moment from) {
            Moment step = steps[place];
            if (step != null && from != null) {
                step.copyFrom(from);
            }
        }
    }

    /** The bytes that were fed, and the tokens that they make. */
    private static final class Tape {
        final byte[] bytes = new byte[TAPE_MOST];
        int length;
        private final int[] kinds = new int[TAPE_MOST + 1];
        private final int[] values = new int[TAPE_MOST + 1];
        private final int[] places = new int[TAPE_MOST + 1];
        private int tokenCount;

        void addFour(int four) {
            for (int shift = 24; shift >= 0 && length < TAPE_MOST; shift -= 8) {
                bytes[length] = (byte) (four >> shift);
                length++;
            }
        }

        int kindAt(int token) {
            return token >= 0 && token < tokenCount ? kinds[token] : T_END;
        }

        int valueAt(int token) {
            return token >= 0 && token < tokenCount ? values[token] : 0;
        }

        int placeAt(int token) {
            return token >= 0 && token < tokenCount ? places[token] : length;
        }

        void cut() {
            tokenCount = 0;
            int at = 0;
            for (int i = 0; i < TAPE_MOST && at < length; i++) {
                int sign = signAt(at);
                if (sign == ' ' || sign == '\n') {
                    at++;
                } else if (isLetter(sign)) {
                    at = cutWord(at);
                } else if (isDigit(sign)) {
                    at = cutNumber(at);
                } else {
                    at = cutSign(at, sign);
                }
            }
            addToken(T_END, 0, length);
        }

        private int cutWord(int from) {
            int to = from;
            for (int i = 0; i < TAPE_MOST && isLetter(signAt(to)); i++) {
                to++;
            }
            addToken(wordKind(from, to), 0, from);
            return to;
        }

        private int cutNumber(int from) {
            int to = from;
            int value = 0;
            for (int i = 0; i < TAPE_MOST && isDigit(signAt(to)); i++) {
                // One above the most is enough to tell that it is too great.
                value = Math.min(value * 10 + signAt(to) - '0', NUMBER_MOST + 1);
                to++;
            }
            addToken(T_NUMBER, value, from);
            return to;
        }

        private int cutSign(int at, int sign) {
            boolean doubled = signAt(at + 1) == '=';
            if (doubled && sign == '<') {
                addToken(S_AT_MOST, 0, at);
                return at + 2;
            }
            if (doubled && sign == '>') {
                addToken(S_AT_LEAST, 0, at);
                return at + 2;
            }
            int place = SIGNS.indexOf((char) sign);
            addToken(place < 0 ? T_STRANGE : SIGNS_FROM + place, 0, at);
            return at + 1;
        }

        private int wordKind(int from, int to) {
            int word = 0;
            int at = from;
            boolean alike = true;
            for (int i = 0; i < WORDS.length(); i++) {
                char sign = WORDS.charAt(i);
                if (sign != ' ') {
                    alike = alike && at < to && signAt(at) == sign;
                    at++;
                } else if (alike && at == to) {
                    return word;
                } else {
                    word++;
                    at = from;
                    alike = true;
                }
            }
            return alike && at == to ? word : T_STRANGE;
        }

        private void addToken(int kind, int value, int place) {
            if (tokenCount < kinds.length) {
                kinds[tokenCount] = kind;
                values[tokenCount] = value;
                places[tokenCount] = place;
                tokenCount++;
            }
        }

        private int signAt(int at) {
            return at >= 0 && at < length && at < TAPE_MOST ? bytes[at] & 255 : NONE;
        }

        private static boolean isLetter(int sign) {
            return sign >= 'a' && sign <= 'z' || sign >= 'A' && sign <= 'Z';
        }

        private static boolean isDigit(int sign) {
            return sign >= '0' && sign <= '9';
        }
    }

    /** A text that was read: its clauses, and its laws as code, each value behind what it is made of. */
    private static final class Script {
        private final int[] code = new int[TAPE_MOST];
        private int codeCount;
        private final int[] lawFrom = new int[2];
        private final int[] lawTo = new int[2];
        private final int[] clauses = new int[CLAUSES_MOST];
        int clauseCount;

        void clear() {
            codeCount = 0;
            clauseCount = 0;
            Arrays.fill(lawFrom, 0);
            Arrays.fill(lawTo, 0);
        }

        void addClause(int kind, int first, int second) {
            if (clauseCount < CLAUSES_MOST) {
                clauses[clauseCount] = kind | first << KIND_BITS | second << 2 * KIND_BITS;
                clauseCount++;
            }
        }

        int kindOf(int clause) {
            return clauseAt(clause) & KIND_MASK;
        }

        int firstOf(int clause) {
            return clauseAt(clause) >> KIND_BITS & KIND_MASK;
        }

        int secondOf(int clause) {
            return clauseAt(clause) >> 2 * KIND_BITS & KIND_MASK;
        }

        boolean hasLaw(int law) {
            return law >= 0 && law < lawTo.length && lawTo[law] > lawFrom[law];
        }

        int startOf(int law) {
            return law >= 0 && law < lawFrom.length ? lawFrom[law] : 0;
        }

        int stopOf(int law) {
            return law >= 0 && law < lawTo.length ? lawTo[law] : 0;
        }

        void setLaw(int law, int from) {
            if (law >= 0 && law < lawFrom.length) {
                lawFrom[law] = from;
                lawTo[law] = codeCount;
            }
        }

        int codeLength() {
            return codeCount;
        }

        int kindAt(int place) {
            return place >= 0 && place < codeCount ? code[place] & KIND_MASK : T_END;
        }

        int valueAt(int place) {
            return place >= 0 && place < codeCount ? code[place] >> KIND_BITS : 0;
        }

        void addCode(int kind, int value) {
            if (codeCount < code.length) {
                code[codeCount] = kind | value << KIND_BITS;
                codeCount++;
            }
        }

        /** A skip is written before it is known where it leads. */
        void aimHere(int skip) {
            if (skip >= 0 && skip < codeCount) {
                code[skip] = code[skip] & KIND_MASK | codeCount << KIND_BITS;
            }
        }

        private int clauseAt(int clause) {
            return clause >= 0 && clause < clauseCount ? clauses[clause] : 0;
        }
    }

    /** Reads a tape's tokens into a script; each reading answers whether it is without fault. */
    private static final class Reader {
        int faultKind;
        int faultPlace = NONE;
        private Tape tape;
        private Script script;
        private int token;
        private int law;

        boolean readInto(Script to, Tape from) {
            if (to == null || from == null) {
                return false;
            }
            script = to;
            tape = from;
            token = 0;
            faultKind = 0;
            faultPlace = NONE;
            script.clear();
            boolean faultless = true;
            for (int i = 0; i <= CLAUSES_MOST && faultless && kind() != T_END; i++) {
                faultless = readClause();
            }
            return faultless;
        }

        private boolean readClause() {
            int kind = kind();
            if (kind > W_HOUR) {
                return refuse(MISPLACED);
            }
            if (script.hasLaw(kind)) {
                return refuse(LAW_AGAIN);
            }
            if (script.clauseCount >= CLAUSES_MOST) {
                return refuse(TOO_MANY_CLAUSES);
            }
            token++;
            boolean faultless = kind <= W_FALLS ? readLaw(kind) : readMove(kind);
            return faultless && accept(S_SEMICOLON);
        }

        private boolean readLaw(int kind) {
            int from = script.codeLength();
            law = kind;
            if (!readSum(0)) {
                return false;
            }
            script.setLaw(kind, from);
            script.addClause(kind, 0, 0);
            return true;
        }

        private boolean readMove(int kind) {
            int first = token;
            if (!readNumber(leastOf(kind), mostOf(kind), NONE)) {
                return false;
            }
            int between = wordBetween(kind);
            if (between == NONE) {
                script.addClause(kind, tape.valueAt(first), 0);
                return true;
            }
            if (!accept(between)) {
                return false;
            }
            int second = token;
            if (!readNumber(0, PLANKS_MOST - 1, kind == W_PLANK ? ON_NONE : NONE)) {
                return false;
            }
            script.addClause(kind, tape.valueAt(first), tape.valueAt(second));
            return true;
        }

        private static int leastOf(int kind) {
            return kind == W_PLANK || kind == W_HOUR ? 1 : 0;
        }

        private static int mostOf(int kind) {
            if (kind == W_PLANK) {
                return WEIGHT_MOST;
            }
            return kind == W_HOUR ? HOURS_AT_ONCE : PLANKS_MOST - 1;
        }

        private static int wordBetween(int kind) {
            if (kind == W_PLANK) {
                return W_ON;
            }
            return kind == W_OBJECT || kind == W_DROP ? W_TO : NONE;
        }

        private boolean readNumber(int least, int most, int besides) {
            if (kind() != T_NUMBER) {
                return refuse(MISPLACED);
            }
            int value = tape.valueAt(token);
            if ((value < least || value > most) && value != besides) {
                return refuse(WRONG_NUMBER);
            }
            token++;
            return true;
        }

        private boolean readSum(int open) {
            if (!readProduct(open)) {
                return false;
            }
            for (int i = 0; i < TAPE_MOST && (kind() == S_PLUS || kind() == S_MINUS); i++) {
                int sign = kind();
                token++;
                if (!readProduct(open)) {
                    return false;
                }
                script.addCode(sign, 0);
            }
            return true;
        }

        private boolean readProduct(int open) {
            if (!readOne(open)) {
                return false;
            }
            for (int i = 0; i < TAPE_MOST && (kind() == S_TIMES || kind() == S_BY); i++) {
                int sign = kind();
                token++;
                if (!readOne(open)) {
                    return false;
                }
                script.addCode(sign, 0);
            }
            return true;
        }

        private boolean readOne(int open) {
            int kind = kind();
            if (kind == T_NUMBER) {
                script.addCode(T_NUMBER, tape.valueAt(token));
                return readNumber(0, NUMBER_MOST, NONE);
            }
            if (kind >= W_HOUR && kind <= W_LOAD) {
                return readName(kind);
            }
            if (kind != S_OPENING && kind != S_MINUS && kind != W_BITS && kind != W_HEAVY && kind != W_IF) {
                return refuse(MISPLACED);
            }
            if (open >= OPEN_MOST) {
                return refuse(TOO_DEEP);
            }
            token++;
            switch (kind) {
                case S_OPENING:
                    return readSum(open + 1) && accept(S_CLOSING);
                case S_MINUS:
                    return readOne(open + 1) && emit(C_OPPOSITE);
                case W_BITS:
                    return readOne(open + 1) && accept(W_OF) && readOne(open + 1) && emit(W_BITS);
                case W_HEAVY:
                    return readOne(open + 1) && emit(W_HEAVY);
                default:
                    return readChoice(open + 1);
            }
        }

        private boolean readName(int kind) {
            if (kind == W_RESTS && law != W_PUTS || kind == W_LOAD && law != W_FALLS) {
                return refuse(WRONG_NAME);
            }
            script.addCode(kind, 0);
            token++;
            return true;
        }

        private boolean readChoice(int open) {
            if (!readEither(open) || !accept(W_THEN)) {
                return false;
            }
            int pastFirst = script.codeLength();
            script.addCode(C_SKIP_UNLESS, 0);
            if (!readSum(open) || !accept(W_ELSE)) {
                return false;
            }
            int pastSecond = script.codeLength();
            script.addCode(C_SKIP, 0);
            script.aimHere(pastFirst);
            if (!readSum(open) || !accept(W_END)) {
                return false;
            }
            script.aimHere(pastSecond);
            return true;
        }

        private boolean readEither(int open) {
            if (!readBoth(open)) {
                return false;
            }
            for (int i = 0; i < TAPE_MOST && kind() == W_OR; i++) {
                token++;
                if (!readBoth(open)) {
                    return false;
                }
                script.addCode(W_OR, 0);
            }
            return true;
        }

        private boolean readBoth(int open) {
            if (!readAsk(open)) {
                return false;
            }
            for (int i = 0; i < TAPE_MOST && kind() == W_AND; i++) {
                token++;
                if (!readAsk(open)) {
                    return false;
                }
                script.addCode(W_AND, 0);
            }
            return true;
        }

        private boolean readAsk(int open) {
            if (kind() == W_NOT) {
                if (open >= OPEN_MOST) {
                    return refuse(TOO_DEEP);
                }
                token++;
                return readAsk(open + 1) && emit(W_NOT);
            }
            if (!readSum(open)) {
                return false;
            }
            int sign = kind();
            if (!compares(sign)) {
                return refuse(MISPLACED);
            }
            token++;
            return readSum(open) && emit(sign);
        }

        private static boolean compares(int kind) {
            return kind >= S_LESS && kind <= S_UNLIKE || kind == S_AT_MOST || kind == S_AT_LEAST;
        }

        private int kind() {
            return tape.kindAt(token);
        }

        private boolean accept(int wanted) {
            if (kind() != wanted) {
                return refuse(MISPLACED);
            }
            token++;
            return true;
        }

        private boolean emit(int kind) {
            script.addCode(kind, 0);
            return true;
        }

        private boolean refuse(int fault) {
            faultKind = fault;
            faultPlace = tape.placeAt(token);
            return false;
        }
    }

    /** Asks a script's laws about a plank. */
    private static final class Scale {
        private final int[] stack = new int[TAPE_MOST];
        private int stacked;
        private Site site;
        private Moment moment;
        private int plank;

        int putsOf(Script script, Site of, Moment at, int asked) {
            if (script == null || !script.hasLaw(W_PUTS)) {
                return 1;
            }
            return within(weigh(script, W_PUTS, of, at, asked), -PUTS_MOST, PUTS_MOST);
        }

        int fallsOf(Script script, Site of, Moment at, int asked) {
            if (script == null || !script.hasLaw(W_FALLS)) {
                return within(at.wind - weightOf(of, asked), 0, ODDS_MOST);
            }
            return within(weigh(script, W_FALLS, of, at, asked), 0, ODDS_MOST);
        }

        private int weigh(Script script, int law, Site of, Moment during, int asked) {
            site = of;
            moment = during;
            plank = asked;
            stacked = 0;
            int at = script.startOf(law);
            int stop = script.stopOf(law);
            for (int i = 0; i < TAPE_MOST && at < stop; i++) {
                int kind = script.kindAt(at);
                int value = script.valueAt(at);
                at++;
                if (kind == T_NUMBER) {
                    push(value);
                } else if (kind <= W_LOAD) {
                    push(named(kind));
                } else if (kind == C_SKIP || kind == C_SKIP_UNLESS && pop() == 0) {
                    at = Math.max(at, value);
                } else if (kind == C_OPPOSITE || kind == W_HEAVY || kind == W_NOT) {
                    performOnOne(kind);
                } else if (kind != C_SKIP_UNLESS) {
                    performOnTwo(kind);
                }
            }
            return pop();
        }

        private void performOnOne(int kind) {
            int only = pop();
            if (kind == C_OPPOSITE) {
                push(-only);
            } else if (kind == W_HEAVY) {
                push(weightOf(site, only));
            } else {
                push(1 - only);
            }
        }

        private void performOnTwo(int kind) {
            int right = pop();
            int left = pop();
            if (kind == W_BITS) {
                push(Math.abs(left) & Math.abs(right));
            } else if (kind == W_OR) {
                push(left | right);
            } else if (kind == W_AND) {
                push(left & right);
            } else if (kind >= S_PLUS && kind <= S_BY) {
                push(within(reckoned(kind, left, right), -VALUE_MOST, VALUE_MOST));
            } else {
                push(compared(kind, left, right) ? 1 : 0);
            }
        }

        private int named(int name) {
            switch (name) {
                case W_HOUR:
                    return moment.hour;
                case W_WIND:
                    return moment.wind;
                case W_NUMBER:
                    return plank;
                case W_WEIGHT:
                    return weightOf(site, plank);
                case W_UP:
                    return Integer.bitCount(moment.up);
                case W_AGAINST:
                    return Integer.bitCount(Disputes.attackers(moment.objections, 1 << plank) & moment.up);
                case W_RESTS:
                    return site.isPlank(plank) ? Integer.bitCount(site.rests[plank]) : 0;
                case W_LOAD:
                    return Integer.bitCount(Frame.restingOn(site, plank) & moment.up);
                default:
                    return 0;
            }
        }

        private static long reckoned(int kind, long left, long right) {
            switch (kind) {
                case S_PLUS:
                    return left + right;
                case S_MINUS:
                    return left - right;
                case S_TIMES:
                    return left * right;
                default:
                    return right == 0 ? 0 : left / right;
            }
        }

        private static boolean compared(int kind, int left, int right) {
            switch (kind) {
                case S_LESS:
                    return left < right;
                case S_MORE:
                    return left > right;
                case S_LIKE:
                    return left == right;
                case S_UNLIKE:
                    return left != right;
                case S_AT_MOST:
                    return left <= right;
                default:
                    return left >= right;
            }
        }

        private static int within(long value, int least, int most) {
            return (int) Math.max(least, Math.min(most, value));
        }

        private static int weightOf(Site site, int plank) {
            return plank >= 0 && plank < site.plankCount ? site.weights[plank] : 0;
        }

        private void push(int value) {
            if (stacked >= 0 && stacked < stack.length) {
                stack[stacked] = value;
                stacked++;
            }
        }

        private int pop() {
            if (stacked < 1 || stacked > stack.length) {
                return 0;
            }
            stacked--;
            return stack[stacked];
        }
    }

    /** What follows from objections (bit 8 * a + b: a objects to b) for sets of planks (bits). */
    private static final class Disputes {
        private final int[] found = new int[SETS_MOST];
        int foundCount;
        private final boolean[] holding = new boolean[SETS_MOST];
        private final long[] ways = new long[SETS_MOST];

        static long objection(int a, int b) {
            return 1L << (a * PLANKS_MOST + b);
        }

        static boolean objects(long objections, int a, int b) {
            return (objections & objection(a, b)) != 0;
        }

        static int targets(long objections, int set) {
            int hit = 0;
            for (int plank = 0; plank < PLANKS_MOST; plank++) {
                if ((set & 1 << plank) != 0) {
                    hit |= (int) (objections >>> plank * PLANKS_MOST) & ROW_MASK;
                }
            }
            return hit;
        }

        static int attackers(long objections, int set) {
            int from = 0;
            for (int plank = 0; plank < PLANKS_MOST; plank++) {
                if (((int) (objections >>> plank * PLANKS_MOST) & ROW_MASK & set) != 0) {
                    from |= 1 << plank;
                }
            }
            return from;
        }

        static boolean isFree(long objections, int set) {
            return (targets(objections, set) & set) == 0;
        }

        static boolean isHolding(long objections, int set) {
            int hit = targets(objections, set);
            return (hit & set) == 0 && (attackers(objections, set) & ~hit) == 0;
        }

        /** Those to which just such object as the set objects to. */
        private static int defended(long objections, int told, int set) {
            return told & ~targets(objections, told & ~targets(objections, set));
        }

        static int groundedBits(long objections, int told) {
            int set = 0;
            for (int round = 0; round <= PLANKS_MOST; round++) {
                int more = defended(objections, told, set);
                if (more == set) {
                    return set;
                }
                set = more;
            }
            return set;
        }

        static int roundOf(long objections, int told, int plank) {
            int set = 0;
            for (int round = 0; round < PLANKS_MOST; round++) {
                set = defended(objections, told, set);
                if (hasBit(set, plank)) {
                    return round;
                }
            }
            return NONE;
        }

        static int ringOf(long objections, int plank) {
            int reached = 1 << plank;
            for (int length = 1; length <= PLANKS_MOST; length++) {
                reached = targets(objections, reached);
                if (hasBit(reached, plank)) {
                    return length;
                }
            }
            return NONE;
        }

        /** The first objection of the lowest that do, NONE if none is needed; NO_SUCH without a way. */
        private static int firstToDrop(long objections, int told, int plank, int from, int count) {
            if (count < 1) {
                return hasBit(groundedBits(objections, told), plank) ? NONE : NO_SUCH;
            }
            if (count > DROPPED_MOST) {
                return NO_SUCH;
            }
            for (int place = from; place < OBJECTIONS_MOST; place++) {
                long one = 1L << place;
                if ((objections & one) != 0
                        && firstToDrop(objections & ~one, told, plank, place + 1, count - 1) != NO_SUCH) {
                    return place;
                }
            }
            return NO_SUCH;
        }

        int answer(int i) {
            if (i == NONE) {
                return foundCount;
            }
            return i >= 0 && i < foundCount && i < SETS_MOST ? found[i] : NO_SUCH;
        }

        int foundWith(int plankBit) {
            int count = 0;
            for (int i = 0; i < foundCount && i < SETS_MOST; i++) {
                if ((found[i] & plankBit) != 0) {
                    count++;
                }
            }
            return count;
        }

        void findStable(long objections, int told) {
            foundCount = 0;
            for (int set = 0; set <= told; set++) {
                if (targets(objections, set) == (told & ~set)) {
                    addFound(set);
                }
            }
        }

        void findPreferred(long objections, int told) {
            foundCount = 0;
            for (int set = 0; set <= told && set < SETS_MOST; set++) {
                holding[set] = isHolding(objections, set);
            }
            for (int set = 0; set <= told && set < SETS_MOST; set++) {
                if (holding[set] && !isWithinHolding(set, told)) {
                    addFound(set);
                }
            }
        }

        private boolean isWithinHolding(int set, int told) {
            for (int more = set + 1; more <= told && more < SETS_MOST; more++) {
                if (holding[more] && (more & set) == set) {
                    return true;
                }
            }
            return false;
        }

        void findNaive(long objections, int told) {
            foundCount = 0;
            for (int set = 0; set <= told; set++) {
                if (isFree(objections, set) && !canGrowFree(objections, told, set)) {
                    addFound(set);
                }
            }
        }

        private static boolean canGrowFree(long objections, int told, int set) {
            for (int plank = 0; plank < PLANKS_MOST; plank++) {
                if (hasBit(told & ~set, plank) && isFree(objections, set | 1 << plank)) {
                    return true;
                }
            }
            return false;
        }

        void findExplaining(long objections, int told, int planks) {
            foundCount = 0;
            for (int place = 0; place < OBJECTIONS_MOST; place++) {
                boolean between = hasBit(told, place / PLANKS_MOST) && hasBit(told, place % PLANKS_MOST);
                if (between && groundedBits(objections ^ 1L << place, told) == planks) {
                    addFound(asTens(place));
                }
            }
        }

        private void addFound(int what) {
            if (foundCount < SETS_MOST) {
                found[foundCount] = what;
                foundCount++;
            }
        }

        /** For each part of the planks: in how many orders it can have been put up first. */
        long countOrders(int[] rests, int planks) {
            if (planks < 0 || planks >= SETS_MOST || rests == null || rests.length < PLANKS_MOST) {
                return NONE;
            }
            ways[0] = 1;
            for (int part = 1; part <= planks; part++) {
                ways[part] = 0;
                for (int last = 0; last < PLANKS_MOST; last++) {
                    int before = part & ~(1 << last);
                    if (hasBit(part & planks, last) && (rests[last] & planks & ~before) == 0) {
                        ways[part] += ways[before];
                    }
                }
            }
            return ways[planks];
        }
    }

    /** What rests on what. */
    private static final class Frame {
        static int restingOn(Site site, int plank) {
            int found = 0;
            for (int other = 0; other < site.plankCount; other++) {
                if ((site.rests[other] & 1 << plank) != 0) {
                    found |= 1 << other;
                }
            }
            return found;
        }

        /** On which one of the set rests. */
        private static int directlyUnder(Site site, int set) {
            int found = 0;
            for (int plank = 0; plank < site.plankCount; plank++) {
                if (hasBit(set, plank)) {
                    found |= site.rests[plank];
                }
            }
            return found;
        }

        static int allUnder(Site site, int plank) {
            int found = 0;
            int layer = 1 << plank;
            for (int i = 0; i < PLANKS_MOST && layer != 0; i++) {
                layer = directlyUnder(site, layer);
                found |= layer;
            }
            return found;
        }

        static int allOver(Site site, int plank) {
            int found = 0;
            for (int other = plank + 1; other < site.plankCount; other++) {
                if ((site.rests[other] & (found | 1 << plank)) != 0) {
                    found |= 1 << other;
                }
            }
            return found;
        }

        static int heightOf(Site site, int plank) {
            int layer = directlyUnder(site, 1 << plank);
            int height = 0;
            for (int i = 0; i < PLANKS_MOST && layer != 0; i++) {
                height++;
                layer = directlyUnder(site, layer);
            }
            return height;
        }

        static int weightOf(Site site, int set) {
            int together = 0;
            for (int plank = 0; plank < site.plankCount; plank++) {
                if (hasBit(set, plank)) {
                    together += site.weights[plank];
                }
            }
            return together;
        }
    }

    /** What the votes say. */
    private static final class Ballots {
        static boolean isOption(int option) {
            return option >= 0 && option < OPTIONS;
        }

        static boolean isOrder(int order) {
            if (order < 0 || order > LAST_ORDER) {
                return false;
            }
            int options = 0;
            for (int place = 0; place < OPTIONS; place++) {
                int option = optionAt(order, place);
                if (!isOption(option)) {
                    return false;
                }
                options |= 1 << option;
            }
            return options == ALL_OPTIONS;
        }

        private static int optionAt(int order, int place) {
            switch (place) {
                case 0:
                    return order / 1000;
                case 1:
                    return order / 100 % 10;
                case 2:
                    return order / 10 % 10;
                default:
                    return order % 10;
            }
        }

        private static int placeOf(int order, int option) {
            for (int place = 0; place < OPTIONS; place++) {
                if (optionAt(order, place) == option) {
                    return place;
                }
            }
            return OPTIONS;
        }

        static int margin(Site site, int a, int b) {
            int more = 0;
            for (int i = 0; i < site.voteCount && i < VOTES_MOST; i++) {
                int vote = site.votes[i];
                more += placeOf(vote, a) < placeOf(vote, b) ? 1 : -1;
            }
            return more;
        }

        static int leftBy(Site site, int order) {
            int left = optionAt(order, 0);
            for (int place = 1; place < OPTIONS; place++) {
                int next = optionAt(order, place);
                if (margin(site, next, left) > 0) {
                    left = next;
                }
            }
            return left;
        }

        static int pairsWinner(Site site) {
            for (int option = 0; option < OPTIONS; option++) {
                if (isAhead(site, 1 << option)) {
                    return option;
                }
            }
            return NONE;
        }

        static int countsWinner(Site site, boolean firstOnly) {
            int best = NONE;
            int most = NONE;
            for (int option = 0; option < OPTIONS; option++) {
                int count = countOf(site, option, firstOnly);
                if (count > most) {
                    most = count;
                    best = option;
                } else if (count == most) {
                    best = NONE;
                }
            }
            return best;
        }

        private static int countOf(Site site, int option, boolean firstOnly) {
            int count = 0;
            for (int i = 0; i < site.voteCount && i < VOTES_MOST; i++) {
                int place = placeOf(site.votes[i], option);
                if (!firstOnly) {
                    count += OPTIONS - 1 - place;
                } else if (place == 0) {
                    count++;
                }
            }
            return count;
        }

        static int scoreOf(Site site, int option) {
            int sum = 0;
            for (int other = 0; other < OPTIONS; other++) {
                int more = other == option ? 0 : margin(site, option, other);
                if (more > 0) {
                    sum++;
                } else if (more < 0) {
                    sum--;
                }
            }
            return sum;
        }

        /** Whether more prefer each of the set to each other option. */
        static boolean isAhead(Site site, int set) {
            for (int pair = 0; pair < OPTIONS * OPTIONS; pair++) {
                int a = pair / OPTIONS;
                int b = pair % OPTIONS;
                if (hasBit(set, a) && !hasBit(set, b) && margin(site, a, b) <= 0) {
                    return false;
                }
            }
            return true;
        }
    }
}
