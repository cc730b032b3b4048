import java.util.List;
import java.util.function.IntUnaryOperator;

/** The sentences of the document's parts III and IV: what follows from objections, rests, votes and what was said. */
final class BoundsOfSets extends Bounds {
    private BoundsOfSets() { }

    /** The answers to NONE, 0, 1, .. and the one behind the last, which is -2. */
    private static void sets(String what, IntUnaryOperator asked, int... want) {
        due(what + ": how many", asked.applyAsInt(NONE), want.length);
        for (int i = 0; i < want.length; i++) {
            due(what + " " + i, asked.applyAsInt(i), want[i]);
        }
        due(what + " behind the last", asked.applyAsInt(want.length), -2);
    }

    /** Plank 0 objects to 1, 1 to 2, and so on. */
    private static ScaffoldReasons chain(int planks) {
        ScaffoldReasons x = free(planks);
        for (int i = 0; i + 1 < planks; i++) {
            x.object(i, i + 1, true);
        }
        return x;
    }

    static void asksChangeNothing() {
        sentence(TERMS, "All that follows changes nothing but what is told");
        ScaffoldReasons x = objecting(up(house(), 0, 1, 2), 1, 22, 30);
        Texts.tell(x, "falls 5;");
        Texts.tell(x, "put ?");
        Texts.feed(x, "put");
        x.vote(2130);
        x.said(1, 5);
        x.hour(1);
        List<Integer> before = seen(x);
        int[] asked = {NONE, 0, 1, 3, 7, 60, 255, MIN, MAX};
        for (int a : asked) {
            x.foretold(a);
            x.holds(a);
            x.round(a);
            x.stables(a);
            x.preferred(a);
            x.naive(a);
            x.ring(a);
            x.inSets(a, true);
            x.repair(a, false);
            x.repair(a, true);
            x.explain(a, 0);
            x.orders(a);
            x.order(a, 0);
            x.all(a);
            x.over(a);
            x.high(a);
            x.least(a);
            x.stand(a, true);
            x.beats(a, 0);
            x.agenda(a);
            x.lead(a);
            x.winner(a);
            x.score(a);
            x.ledger(a);
        }
        x.grounded();
        x.heaviest(true);
        x.top();
        x.whose();
        x.gaps();
        x.unopposed();
        x.atOdds();
        x.loaded();
        same("asked", seen(x), before);
    }

    static void foretoldHours() {
        sentence(TERMS, "FORETOLD behind n HOURS (1 .. 60; those that can pass), nothing else being done");
        // Draws 7, 8 and 9, 2: by WIND 7 and 9 a plank of weight 1 falls in the second hour.
        ScaffoldReasons x = new ScaffoldReasons();
        x.plank(1, 0);
        up(x, 0);
        due("0", x.foretold(0), -2);
        due("1", x.foretold(1), 1);
        due("2", x.foretold(2), 0);
        due("60", x.foretold(60), 0);
        due("61", x.foretold(61), -2);
        due("one that is down stays so", free(1).foretold(60), 0);
        x = at(9998);
        x.plank(1, 0);
        up(x, 0);
        ruled(x, "falls if hour=9998 then 0 else 10 end;");
        due("only one can pass", x.foretold(60), 1);
        due("only one can pass", x.foretold(2), 1);
        due("it falls in the last one", ruled(x, "falls if hour=9998 then 10 else 0 end;").foretold(60), 0);
        x.hour(1);
        up(x, 0);
        due("none can pass", ruled(x, "falls 10;").foretold(60), 1);
        due("none can pass", x.foretold(1), 1);
    }

    static void holdingSets() {
        sentence(TERMS, "PLANKS hold, if none of them objects to one of them, and to each that objects to one of them one of them objects (none at all hold)");
        due("none of none", free(0).holds(0), true);
        ScaffoldReasons x = objecting(free(3), 0);
        due("none at all", x.holds(0), true);
        due("one that objects to itself", x.holds(1), false);
        due("all that don't", x.holds(6), true);
        x = chain(3);
        due("one objected to", x.holds(2), false);
        due("one with another that answers", x.holds(5), true);
        due("one without", x.holds(4), false);
        due("objecting within", x.holds(3), false);
        x = objecting(free(2), 1, 10);
        due("it answers for itself", x.holds(1), true);
        due("it answers for itself", x.holds(2), true);
        due("eight", free(8).holds(255), true);
    }

    static void groundedRounds() {
        sentence(TERMS, "GROUNDED: in ROUND 0 those to which none objects; then again and again those to which just such object as one of the GROUNDED ones objects to");
        ScaffoldReasons x = chain(8);
        due("every second one", x.grounded(), 85);
        for (int i = 0; i < 8; i++) {
            due("round of " + i, x.round(i), i % 2 == 0 ? i / 2 : NONE);
        }
        objecting(x, 14);
        due("the later of the two that object to 4 is answered in round 2", x.round(4), 2);
        due("none of none", free(0).grounded(), 0);
        due("eight", free(8).grounded(), 255);
        due("one that objects to itself", objecting(free(1), 0).grounded(), 0);
        x = objecting(free(2), 1, 10);
        due("two that object to each other", x.grounded(), 0);
        x = objecting(free(4), 3, 13, 20);
        due("one of two that object is answered", x.grounded(), 6);
        objecting(x, 21);
        due("both are", x.grounded(), 12);
        due("in round 1", x.round(3), 1);
    }

    static void stableSets() {
        sentence(TERMS, "STABLE: PLANKS none of which objects to one of them, and to each other one of which objects one of them does");
        sets("none of none", free(0)::stables, 0);
        sets("all of free ones", free(8)::stables, 255);
        sets("none where one objects to itself", objecting(free(1), 0)::stables);
        sets("a ring of three has none", objecting(free(3), 1, 12, 20)::stables);
        sets("a chain of three", chain(3)::stables, 5);
        sets("one that objects to itself, objected to", objecting(free(2), 0, 10)::stables, 2);
        sets("one that holds alone isn't", objecting(free(3), 1, 10, 22)::stables);
    }

    static void preferredSets() {
        sentence(TERMS, "PREFERRED: PLANKS that hold, and none with them and more do");
        sets("none of none", free(0)::preferred, 0);
        sets("all of free ones", free(8)::preferred, 255);
        sets("none at all, where no other holds", objecting(free(1), 0)::preferred, 0);
        sets("a ring of three", objecting(free(3), 1, 12, 20)::preferred, 0);
        sets("not none at all, where others hold", objecting(free(3), 1, 10, 22)::preferred, 1, 2);
        // 2 holds with both 0 and 1 alone: none of 0, 1, 2 is preferred by itself.
        sets("more", objecting(free(3), 1, 10)::preferred, 5, 6);
        // One more never holds here, but two more do: 1 and 2 answer for one another.
        sets("two more at once", objecting(free(5), 31, 42, 13, 24, 33, 44)::preferred, 7);
        sets("two more at once", objecting(free(5), 31, 42, 23, 14, 33, 44)::preferred, 7);
    }

    static void fromTheLowestSet() {
        sentence(TERMS, "Both from the lowest set on");
        ScaffoldReasons x = objecting(free(8), 1, 10, 23, 32, 45, 54, 67, 76);
        int before = NONE;
        for (int i = 0; i < 16; i++) {
            due("the same sets", x.stables(i), x.preferred(i));
            due("upwards", x.stables(i) > before, true);
            before = x.stables(i);
        }
        due("the lowest", x.stables(0), 85);
        due("the highest", x.stables(15), 170);
        sets("as numbers, not by how many", objecting(free(4), 1, 2, 10, 20, 3, 30)::stables, 1, 14);
        sets("as numbers, not by how many", objecting(free(4), 30, 31, 32, 3, 13, 23)::stables, 7, 8);
        sets("as numbers, not by how many", objecting(free(4), 30, 31, 32, 3, 13, 23)::preferred, 7, 8);
    }

    static void naiveSets() {
        sentence(TERMS, "NAIVE likewise: PLANKS none of which objects to one of them (nor to itself), and so with none more");
        sets("none of none", free(0)::naive, 0);
        sets("all of free ones", free(8)::naive, 255);
        sets("none at all, where all object to themselves", objecting(free(2), 0, 11)::naive, 0);
        sets("never with one that objects to itself", objecting(free(3), 1)::naive, 5, 6);
        sets("never with one that objects to itself", objecting(free(3), 0)::naive, 6);
        sets("a ring of three, from the lowest on", objecting(free(3), 1, 12, 20)::naive, 1, 2, 4);
        sets("they need not hold", chain(2)::naive, 1, 2);
    }

    static void rings() {
        sentence(TERMS, "A RING: the fewest OBJECTIONS one behind the other from a PLANK back to it (to itself 1); none");
        ScaffoldReasons x = chain(8);
        due("none", x.ring(0), NONE);
        objecting(x, 70);
        due("the longest", x.ring(0), 8);
        due("the longest", x.ring(7), 8);
        objecting(x, 76);
        due("the fewest", x.ring(6), 2);
        due("the fewest", x.ring(7), 2);
        due("others", x.ring(5), 8);
        objecting(x, 77);
        due("to itself", x.ring(7), 1);
        due("another one's own does not count", x.ring(6), 2);
        x = objecting(free(3), 1, 12, 21);
        due("one that only leads to a ring", x.ring(0), NONE);
        due("the ring", x.ring(1), 2);
        due("free", free(1).ring(0), NONE);
    }

    static void repairedByFewest() {
        sentence(TERMS, "REPAIRED: the fewest OBJECTIONS (3 at most) to drop, so that a PLANK is GROUNDED");
        ScaffoldReasons x = free(6);
        due("0", x.repair(0, true), 0);
        objecting(x, 10);
        due("1", x.repair(0, true), 1);
        objecting(x, 20);
        due("2", x.repair(0, true), 2);
        objecting(x, 30);
        due("3", x.repair(0, true), 3);
        due("3", x.repair(0, false), 10);
        objecting(x, 40);
        due("4 are too many", x.repair(0, true), -2);
        due("4 are too many", x.repair(0, false), -2);
        objecting(x, 54);
        due("one is answered: 3 again", x.repair(0, true), 3);
        objecting(x, 45);
        due("not any more", x.repair(0, true), -2);
        x = objecting(free(6), 10, 20, 30, 40, 51, 52, 53, 54, 15);
        due("one that frees the one that answers all", x.repair(0, true), 1);
        due("one that frees the one that answers all", x.repair(0, false), 15);
    }

    static void repairedByLowest() {
        sentence(TERMS, "of like ones the lowest first (by the one that objects, then the other one), then the next, ...");
        ScaffoldReasons x = objecting(free(3), 1, 12, 20);
        due("0 by 20 or 01; 01 frees 1, that answers 2", x.repair(0, false), 1);
        due("1 by 01", x.repair(1, false), 1);
        due("2 by 12 or 20", x.repair(2, false), 12);
        x = objecting(free(4), 30, 20, 10);
        due("all three, the lowest first", x.repair(0, false), 10);
        // 4 objects to 3; 0 and 5 would answer it, were 2 not objecting to 0 and 1 to 5.
        x = objecting(free(6), 43, 4, 54, 20, 15);
        due("one", x.repair(3, true), 1);
        due("by the one that objects", x.repair(3, false), 15);
        // 4 objects to 3; 1 and 2 would answer it, were 0 not objecting to both.
        x = objecting(free(5), 43, 14, 24, 2, 1);
        due("then by the other one", x.repair(3, false), 1);
        // By 01 plank 1 is free of 0; by 02, the very next one, 2 is, and answers 3 and 4.
        x = objecting(free(5), 1, 2, 31, 41, 23, 24);
        due("two that stand next to one another", x.repair(1, true), 2);
        due("the first of them", x.repair(1, false), 1);
        x = objecting(free(3), 0, 1, 10, 11);
        due("to itself", x.repair(0, true), 2);
        due("to itself", x.repair(0, false), 0);
        due("the other one", x.repair(1, false), 1);
        x = objecting(free(8), 77);
        due("the last of all", x.repair(7, false), 77);
    }

    static void heaviestSets() {
        sentence(TERMS, "HEAVIEST: of PLANKS none of which objects to one of them (nor to itself) the greatest WEIGHT together; of like ones the lowest set");
        due("none", free(0).heaviest(false), 0);
        due("none", free(0).heaviest(true), 0);
        due("none but such that object to themselves", objecting(free(1), 0).heaviest(true), 0);
        due("none but such that object to themselves", objecting(free(1), 0).heaviest(false), 0);
        ScaffoldReasons x = new ScaffoldReasons();
        for (int i = 0; i < 8; i++) {
            x.plank(9, 0);
        }
        due("eight of 9", x.heaviest(true), 72);
        due("eight of 9", x.heaviest(false), 255);
        objecting(x, 70);
        due("like ones", x.heaviest(true), 63);
        due("the lowest set", x.heaviest(false), 127);
        x = new ScaffoldReasons();
        x.plank(4, 0);
        x.plank(3, 0);
        x.plank(3, 0);
        objecting(x, 1, 20);
        due("two light ones", x.heaviest(true), 6);
        due("two light ones", x.heaviest(false), 6);
        x = new ScaffoldReasons();
        x.plank(6, 0);
        x.plank(3, 0);
        x.plank(3, 0);
        objecting(x, 1, 20);
        due("alike: the lowest set", x.heaviest(false), 1);
    }

    static void explainedByAny() {
        sentence(TERMS, "EXPLAINED: by which OBJECTION alone being otherwise (made, or dropped; of any to any PLANK) just such PLANKS are GROUNDED; from the lowest on");
        ScaffoldReasons x = free(1);
        sets("of one to itself, made", i -> x.explain(0, i), 0);
        sets("as it is, by none", i -> x.explain(1, i));
        objecting(x, 0);
        sets("of one to itself, dropped", i -> x.explain(1, i), 0);
        ScaffoldReasons y = free(8);
        sets("of any to 7", i -> y.explain(127, i), 7, 17, 27, 37, 47, 57, 67, 77);
        ScaffoldReasons z = chain(2);
        sets("dropped", i -> z.explain(3, i), 1);
        sets("made", i -> z.explain(0, i), 0, 10);
        sets("made, and just the same are", i -> z.explain(1, i), 11);
        ScaffoldReasons none = free(0);
        sets("of no planks", i -> none.explain(0, i));
    }

    static void ordersOfSome() {
        sentence(TERMS, "ORDERS: in how many orders all of some PLANKS can be put up, none having been, so that each comes behind those of them on which it RESTS (others aside)");
        due("of none", free(0).orders(0), 1);
        due("of none of some", house().orders(0), 1);
        due("of one", house().orders(8), 1);
        due("of eight", free(8).orders(255), 40320);
        ScaffoldReasons x = house();
        due("of all", x.orders(15), 3);
        due("0 and 3: 1 is aside", x.orders(9), 2);
        due("0, 1 and 2", x.orders(7), 3);
        up(x, 0, 1, 2, 3);
        due("none having been", x.orders(15), 3);
        x = new ScaffoldReasons();
        for (int i = 0; i < 8; i++) {
            x.plank(1, i == 0 ? 0 : 1 << i - 1);
        }
        due("one on the other", x.orders(255), 1);
        due("every second one", x.orders(85), 24);
    }

    static void lowestOrder() {
        sentence(TERMS, "AN ORDER: the lowest first, then the lowest next, ...");
        ScaffoldReasons x = house();
        sets("7", i -> i == NONE ? 3 : x.order(7, i), 0, 1, 2);
        sets("14", i -> i == NONE ? 3 : x.order(14, i), 1, 2, 3);
        sets("of none", i -> i == NONE ? 0 : x.order(0, i));
        ScaffoldReasons y = free(8);
        sets("255", i -> i == NONE ? 8 : y.order(255, i), 0, 1, 2, 3, 4, 5, 6, 7);
        sets("128", i -> i == NONE ? 1 : y.order(128, i), 7);
    }

    static void allUnderAndOver() {
        sentence(TERMS, "ALL UNDER: on which it RESTS, and on which these do, ..; ALL OVER the other way");
        ScaffoldReasons x = new ScaffoldReasons();
        for (int i = 0; i < 8; i++) {
            x.plank(1, i == 0 ? 0 : 1 << i - 1);
        }
        for (int i = 0; i < 8; i++) {
            due("under " + i, x.all(i), (1 << i) - 1);
            due("over " + i, x.over(i), 255 & ~((2 << i) - 1));
        }
        x = free(8);
        due("on none", x.all(7), 0);
        due("under none", x.over(0), 0);
        x = house();
        due("not those aside", x.all(1), 1);
        due("not those aside", x.over(2), 8);
    }

    static void highest() {
        sentence(TERMS, "HIGH: the most PLANKS one on the other under it");
        ScaffoldReasons x = new ScaffoldReasons();
        for (int i = 0; i < 8; i++) {
            x.plank(1, i == 0 ? 0 : 1 << i - 1);
            due("high " + i, x.high(i), i);
        }
        x = free(7);
        x.plank(1, 127);
        due("seven beside one another", x.high(7), 1);
        x = house();
        due("the longer way of two", x.high(3), 2);
        due("on none", x.high(2), 0);
    }

    static void leastToPutUp() {
        sentence(TERMS, "LEAST to put up: it (however it is) and all UNDER it that are down");
        ScaffoldReasons x = house();
        due("all", x.least(3), 15);
        due("itself alone", x.least(2), 4);
        up(x, 0);
        due("it, though it is up", x.least(0), 1);
        due("not one that is up", x.least(1), 2);
        due("not one that is up", x.least(3), 14);
        up(x, 2);
        x.concede(2);
        due("it, though it is conceded", x.least(2), 4);
        due("not one that is conceded", x.least(3), 10);
        up(x, 1);
        x.concede(1);
        x.take(0);
        due("under a conceded one too", x.least(3), 9);
    }

    static void standInLowestTerms() {
        sentence(TERMS, "in lowest terms (those that aren't up aside)");
        ScaffoldReasons x = free(8);
        for (String law : new String[] {"falls 0;", "falls 10;", "falls 5;", "falls 3;"}) {
            Texts.tell(x, law);
        }
        x.by(1);
        due("none is up: sure", x.stand(255, false), 1);
        due("none is up: sure", x.stand(255, true), 1);
        up(x, 0, 1, 2, 3, 4, 5, 6, 7);
        due("never: 0", x.stand(255, false), 0);
        due("of 1", x.stand(255, true), 1);
        x.by(0);
        due("sure: 1", x.stand(255, false), 1);
        due("of 1", x.stand(255, true), 1);
        x.by(2);
        due("5 of 10 is 1", x.stand(1, false), 1);
        due("of 2", x.stand(1, true), 2);
        due("eight times", x.stand(255, false), 1);
        due("of 256", x.stand(255, true), 256);
        x.by(3);
        due("7 to the 8th", x.stand(255, false), 5764801);
        due("of 10 to the 8th", x.stand(255, true), 100000000);
        due("of none", x.stand(0, true), 1);
        x.take(7);
        x.concede(6);
        due("one that is down and one conceded are aside", x.stand(193, true), 10);
        due("one that is down and one conceded are aside", x.stand(192, true), 1);
    }

    static void votesAreSeven() {
        sentence(TERMS, "VOTES (7 at most; told: options 0 .. 3 as four digits, the one liked most first, each once: 123 is 0, 1, 2, 3)");
        ScaffoldReasons x = new ScaffoldReasons();
        int told = 0;
        for (int order = -5; order <= 10330; order += order < 3220 ? 1 : 37) {
            x.vote(NONE);
            if (x.vote(order) == 1) {
                told++;
            }
            if (order % 200 == 0) {
                x = new ScaffoldReasons();
            }
        }
        due("as many as there are orders, and NONE is none", told, 24);
        x = voted(123);
        due("0 most", x.beats(0, 1), 1);
        due("3 least", x.beats(3, 2), -1);
        x = voted(3210);
        due("3 most", x.beats(3, 2), 1);
        x = voted();
        for (int i = 1; i <= 7; i++) {
            due("vote", x.vote(1032), i);
        }
        due("an eighth", x.vote(1032), -2);
        due("seven", x.beats(1, 0), 7);
    }

    static void prefersByVotes() {
        sentence(TERMS, "How many more prefer the one of two: VOTES for it less VOTES for the other one");
        due("no vote", voted().beats(0, 1), 0);
        due("all seven", voted(123, 123, 123, 123, 123, 123, 123).beats(0, 3), 7);
        due("all seven against", voted(123, 123, 123, 123, 123, 123, 123).beats(3, 0), -7);
        due("alike", voted(123, 3210).beats(0, 3), 0);
        due("4 : 3", voted(123, 123, 123, 123, 3210, 3210, 3210).beats(1, 2), 1);
    }

    static void agendasAlike() {
        sentence(TERMS, "the one more prefer is left, alike: the one that was there");
        for (int order : new int[] {123, 1023, 2013, 3210}) {
            due("no vote: the first stays", voted().agenda(order), order / 1000);
        }
        ScaffoldReasons x = voted(123, 1023);
        due("alike: the first", x.agenda(123), 0);
        due("alike: the first", x.agenda(1032), 1);
        due("alike: the one that is left", x.agenda(2013), 0);
        due("alike: the one that is left", x.agenda(2103), 1);
        due("the last may win", voted(3120).agenda(123), 3);
        due("the first may stay", voted(123).agenda(123), 0);
    }

    static void leadsToNone() {
        sentence(TERMS, "LEADING to an option: the lowest AGENDA by which it is left; none");
        int[] first = {123, 1023, 2013, 3012};
        for (int i = 0; i < 4; i++) {
            due("no vote", voted().lead(i), first[i]);
        }
        ScaffoldReasons x = voted(123);
        due("the one that all prefer", x.lead(0), 123);
        due("none leads to the others", x.lead(1), NONE);
        due("none leads to the others", x.lead(3), NONE);
        // 2 loses to 0 alone and 0 is alike with 1: 1 is left just when 3, alike with 2, is there first.
        due("the highest of all", voted(213, 321, 1032, 2103).lead(1), 3210);
    }

    static void winnersOfLikeOnes() {
        sentence(TERMS, "of like ones none");
        for (int how = 0; how < 3; how++) {
            due("no vote", voted().winner(how), NONE);
            due("one vote", voted(2013).winner(how), 2);
            due("two that are alike", voted(123, 1023).winner(how), NONE);
            due("all alike", voted(123, 1230, 2301, 3012).winner(how), NONE);
        }
        due("the last of all", voted(3210).winner(1), 3);
        // Firsts 3, 3, 1: like ones though there is one below; points 12, 16, 11, 3.
        ScaffoldReasons x = voted(123, 123, 123, 1203, 1203, 1203, 2103);
        due("first ones", x.winner(2), NONE);
        due("points", x.winner(1), 1);
        due("pairs", x.winner(0), 1);
    }

    static void winnersByPairs() {
        sentence(TERMS, "A WINNER by pairs: that is preferred by more to each other one");
        due("to all three", voted(123, 123, 3210).winner(0), 0);
        due("to two, alike with one", voted(123, 1023).winner(0), NONE);
        due("to two, less than one", voted(123, 1203, 2013).winner(0), NONE);
        due("the last option", voted(3012).winner(0), 3);
    }

    static void winnersByPoints() {
        sentence(TERMS, "by points (3, 2, 1, 0 in each VOTE): the most; by first ones: most often the first");
        // 0: 3 + 3 + 0, 1: 2 + 2 + 3, 2: 1 + 1 + 2, 3: 0 + 0 + 1.
        ScaffoldReasons x = voted(123, 123, 1230);
        due("points", x.winner(1), 1);
        due("first ones", x.winner(2), 0);
        // 0: 3 + 0, 1: 2 + 1, 2: 1 + 2, 3: 0 + 3.
        due("all alike", voted(123, 3210).winner(1), NONE);
        due("one by a point: 4, 2, 3, 3", voted(123, 3201).winner(1), 0);
        due("seven", voted(3012, 3012, 3012, 3012, 3012, 3012, 3012).winner(1), 3);
    }

    static void scores() {
        sentence(TERMS, "SCORE of an option: to how many other ones more prefer it, less how many more prefer to it");
        for (int i = 0; i < 4; i++) {
            due("no vote", voted().score(i), 0);
            due("one vote", voted(123).score(i), 3 - 2 * i);
        }
        due("alike counts for neither", voted(123, 1023).score(0), 2);
        due("a ring", voted(123, 1203, 2013).score(0), 1);
    }

    static void topOfFewest() {
        sentence(TERMS, "TOP: the fewest options (bits) each of which more prefer to each other one; of like many the lowest set (all four always are)");
        due("no vote: all four", voted().top(), 15);
        due("all alike: all four", voted(123, 3210).top(), 15);
        due("one", voted(3210).top(), 8);
        due("two", voted(123, 1023).top(), 3);
        due("two", voted(3210, 2310).top(), 12);
        due("three", voted(123, 1203, 2013).top(), 7);
        due("three", voted(3210, 2130, 1320).top(), 14);
        // 1 is above 2 and 3, and alike with 0, which is alike with them: none but all four.
        due("alike is not above", voted(123, 1230).top(), 15);
    }

    static void saidIsBounded() {
        sentence(TERMS, "WHOSE LAW (told: SAID, 8 at most: a PLANK, falls 0 .. 10)");
        ScaffoldReasons x = free(8);
        due("-1", x.said(0, -1), -2);
        due("11", x.said(0, 11), -2);
        due("plank 8", x.said(8, 0), -2);
        due("0", x.said(0, 0), 1);
        due("10", x.said(7, 10), 2);
        for (int i = 3; i <= 8; i++) {
            due("said", x.said(i - 1, i), i);
        }
        due("a ninth", x.said(0, 0), -2);
        due("said", x.about(5), 8);
    }

    static void whoseAsNow() {
        sentence(TERMS, "TEXTS (bits) by whose falls all are so (as now)");
        ScaffoldReasons x = free(2);
        due("no text", x.whose(), 0);
        Texts.tell(x, "falls number*10;");
        due("nothing is said: all", x.whose(), 1);
        Texts.tell(x, "falls wind;");
        Texts.tell(x, "falls -5;");
        Texts.tell(x, "falls 999;");
        due("all four", x.whose(), 15);
        x.said(0, 0);
        due("0 of plank 0", x.whose(), 7);
        x.said(1, 10);
        due("10 of plank 1: all must be so", x.whose(), 1);
        x.said(NONE, 0);
        x.said(1, 10);
        due("10 of plank 1", x.whose(), 9);
        x.said(1, 9);
        due("two of one plank that can't both be", x.whose(), 0);
        x.said(NONE, 0);
        x.said(0, 7);
        due("not yet", x.whose(), 0);
        x.hour(1);
        due("as now: WIND is 7", x.whose(), 2);
    }

    static void gapsOverWhatStands() {
        sentence(TERMS, "GAPS: PLANKS (bits) that are down, all on which they REST being up or conceded");
        due("none", free(0).gaps(), 0);
        due("eight", free(8).gaps(), 255);
        ScaffoldReasons x = house();
        due("those that rest on none", x.gaps(), 5);
        up(x, 0, 1);
        due("not one that is up; one of two isn't enough", x.gaps(), 4);
        up(x, 2);
        due("both", x.gaps(), 8);
        x.concede(2);
        due("one of them conceded", x.gaps(), 8);
        ruled(x, "puts 0;");
        due("puts does not matter", x.gaps(), 8);
    }

    static void unopposedByNone() {
        sentence(TERMS, "UNOPPOSED: PLANKS (bits) to which none objects");
        due("none", free(0).unopposed(), 0);
        due("eight", free(8).unopposed(), 255);
        due("itself objects", objecting(free(2), 0).unopposed(), 2);
        due("the last to the first", objecting(free(8), 70).unopposed(), 254);
        due("the first to the last", objecting(free(8), 7).unopposed(), 127);
        ScaffoldReasons x = objecting(up(free(2), 0), 1);
        x.take(0);
        due("how it is does not matter", x.unopposed(), 1);
    }

    static void atOddsWithThemselves() {
        sentence(TERMS, "AT ODDS: PLANKS (bits) that object to themselves");
        due("none", free(0).atOdds(), 0);
        due("none of eight", free(8).atOdds(), 0);
        due("first and last", objecting(free(8), 0, 77).atOdds(), 129);
        due("to others does not matter", objecting(free(8), 7, 70).atOdds(), 0);
    }

    static void mostLoaded() {
        sentence(TERMS, "MOST LOADED: the PLANK that is up on which most that are up REST (one at least); of like ones the lowest; none");
        due("none at all", free(0).loaded(), NONE);
        ScaffoldReasons x = new ScaffoldReasons();
        x.plank(1, 0);
        x.plank(1, 0);
        x.plank(1, 2);
        x.plank(1, 1);
        x.plank(1, 3);
        x.plank(1, 2);
        up(x, 0, 1);
        due("up, but nothing on them", x.loaded(), NONE);
        up(x, 2);
        due("one is enough", x.loaded(), 1);
        up(x, 3);
        due("of like ones the lowest", x.loaded(), 0);
        up(x, 4);
        due("of like ones the lowest", x.loaded(), 0);
        up(x, 5);
        due("the most", x.loaded(), 1);
        x.concede(1);
        due("a conceded one is none", x.loaded(), 0);
        x.concede(3);
        x.concede(4);
        due("conceded ones on it don't count", x.loaded(), NONE);
    }

    static void linesOfAKind() {
        sentence(TERMS, "BY THE BOOK: how many lines there are of a kind");
        ScaffoldReasons x = free(2);
        for (int kind = 0; kind < 4; kind++) {
            due("none", x.ledger(kind), 0);
        }
        for (int i = 0; i < 15; i++) {
            x.put(0);
            x.take(0);
        }
        due("put up", x.ledger(0), 15);
        due("taken down", x.ledger(1), 15);
        up(x, 0);
        due("put up: one comes, the eldest goes", x.ledger(0), 15);
        x.concede(0);
        due("conceded", x.ledger(3), 1);
        due("put up", x.ledger(0), 15);
        due("taken down: the eldest went", x.ledger(1), 14);
        up(x, 1);
        ruled(x, "falls 10;").hour(1);
        due("fallen", x.ledger(2), 1);
        due("all together", x.ledger(0) + x.ledger(1) + x.ledger(2) + x.ledger(3), 30);
    }
}
