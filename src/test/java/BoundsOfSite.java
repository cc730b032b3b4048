import java.util.List;

/** The sentences of the document's parts I and V: planks, objections, wind, hours, steps, years, images. */
final class BoundsOfSite extends Bounds {
    private BoundsOfSite() { }

    static void lastOf512Calls() {
        sentence(TERMS, "An object is used for at most 512 calls after it has been made");
        ScaffoldReasons x = free(1);
        for (int call = 2; call < 512; call++) {
            due("call " + call, call % 2 == 0 ? x.put(0) : x.take(0), true);
        }
        due("call 512", x.book(29, 2), 1);
        x = new ScaffoldReasons();
        for (int call = 1; call < 512; call++) {
            x.hour(1);
        }
        due("call 512", x.is(0), 511);
    }

    static void planksAreEight() {
        sentence(TERMS, "PLANKS 0 .. 7 (told one by one)");
        ScaffoldReasons x = free(0);
        for (int i = 0; i < 8; i++) {
            due("ahead of being told", x.of(i, 0), -100);
            due("plank", x.plank(5, 0), i);
            due("told", x.of(i, 0), 5);
        }
        due("a ninth", x.plank(5, 0), NONE);
        due("a ninth", x.of(8, 0), -100);
        due("the last one is as good as the first", x.put(7), true);
        due("its bit", x.is(3), 128);
    }

    static void weights() {
        sentence(TERMS, "WEIGHT 1 .. 9");
        ScaffoldReasons x = free(0);
        due("0", x.plank(0, 0), NONE);
        due("10", x.plank(10, 0), NONE);
        due("1", x.plank(1, 0), 0);
        due("9", x.plank(9, 0), 1);
        due("1", x.of(0, 0), 1);
        due("9", x.of(1, 0), 9);
    }

    static void restsOnThoseAhead() {
        sentence(TERMS, "on which it RESTS (PLANKS told ahead of it, or none)");
        ScaffoldReasons x = free(2);
        due("on itself", x.plank(5, 4), NONE);
        due("on itself and one ahead", x.plank(5, 5), NONE);
        due("on one behind it", x.plank(5, 8), NONE);
        due("on all ahead", x.plank(5, 3), 2);
        due("on none", x.plank(5, 0), 3);
        due("on all ahead", x.of(2, 1), 3);
        due("on none", x.of(3, 1), 0);
    }

    static void downAtFirst() {
        sentence(TERMS, "down (at first), up, or conceded");
        ScaffoldReasons x = free(1);
        due("at first", x.of(0, 2), 0);
        x.put(0);
        due("up", x.of(0, 2), 1);
        x.concede(0);
        due("conceded", x.of(0, 2), 2);
        x.plank(5, 0);
        due("another one, at first", x.of(1, 2), 0);
    }

    static void objectionsAtFirst() {
        sentence(TERMS, "OBJECTIONS of one to another one, or itself (at first none)");
        ScaffoldReasons x = free(8);
        for (int i = 0; i < 8; i++) {
            due("at first", x.of(i, 3) | x.of(i, 4), 0);
        }
        objecting(x, 7, 70, 0, 77);
        due("the first to the last and itself", x.of(0, 3), 129);
        due("the last to the first and itself", x.of(7, 3), 129);
    }

    static void winds() {
        sentence(TERMS, "WIND 0 .. 9 (at first 0)");
        ScaffoldReasons x = free(0);
        due("at first", x.is(2), 0);
        int winds = 0;
        for (int i = 0; i < 100; i++) {
            x.hour(1);
            winds |= 1 << x.is(2);
        }
        due("each of the ten, and none else", winds, 1023);
    }

    static void hoursFromNone() {
        sentence(TERMS, "HOUR 0 .. 9999 (at first 0)");
        due("at first", free(0).is(0), 0);
        ScaffoldReasons x = at(9999);
        due("no more", x.hour(1), NONE);
        due("the last", x.is(0), 9999);
    }

    static void firstX() {
        sentence(TERMS, "X: at first 337");
        due("X", free(0).is(1), 337);
        ScaffoldReasons x = free(0);
        x.hour(1);
        due("of which the first WIND is", x.is(2), 7);
    }

    static void latest30Lines() {
        sentence(TERMS, "BOOK (the latest 30)");
        ScaffoldReasons x = up(free(8), 0, 1);
        for (int i = 2; i < 30; i++) {
            due("a line", i % 2 == 0 ? x.put(7) : x.take(7), true);
        }
        due("30 lines", x.book(NONE, 0), 30);
        due("the eldest is the first", x.book(0, 1), 0);
        due("the latest", x.book(29, 2), 1);
        up(x, 6);
        due("31 lines", x.book(NONE, 0), 30);
        due("the eldest is the second", x.book(0, 1), 1);
        due("the latest", x.book(29, 1), 6);
        up(x, 5);
        due("32 lines", x.book(NONE, 0), 30);
        due("the eldest is the third", x.book(0, 1), 7);
        due("the latest", x.book(29, 1), 5);
        due("there is no 31st", x.book(30, 1), -2);
    }

    static void putUpFromDown() {
        sentence(TERMS, "PUT UP: a PLANK that is down");
        ScaffoldReasons x = up(free(1), 0);
        due("one that is up", x.put(0), false);
        x.concede(0);
        due("one that is conceded", x.put(0), false);
        due("lines", x.book(NONE, 0), 2);
    }

    static void putUpOnWhatStands() {
        sentence(TERMS, "all on which it RESTS being up or conceded");
        ScaffoldReasons x = house();
        due("none of two", x.put(3), false);
        up(x, 2);
        due("one of two", x.put(3), false);
        x.concede(2);
        due("one of two", x.put(3), false);
        up(x, 0, 1);
        due("one up, one conceded", x.put(3), true);
    }

    static void putUpByMoreThanNone() {
        sentence(TERMS, "puts saying more than 0");
        ScaffoldReasons x = ruled(free(4), "puts number-2;");
        due("puts -2", x.put(0), false);
        due("puts -1", x.put(1), false);
        due("puts 0", x.put(2), false);
        due("puts 1", x.put(3), true);
    }

    static void takenDownFromUp() {
        sentence(TERMS, "TAKEN DOWN: a PLANK that is up");
        ScaffoldReasons x = free(1);
        due("one that is down", x.take(0), false);
        up(x, 0);
        due("one that is up", x.take(0), true);
        due("one that is down again", x.take(0), false);
        up(x, 0);
        x.concede(0);
        due("one that is conceded", x.take(0), false);
    }

    static void takenDownFromUnderNone() {
        sentence(TERMS, "none that is up RESTING on it");
        ScaffoldReasons x = up(house(), 0, 1);
        due("one on it is up", x.take(0), false);
        due("the upper one", x.take(1), true);
        due("the one on it is down", x.take(0), true);
        up(x, 0, 1);
        x.concede(1);
        due("the one on it is conceded", x.take(0), true);
    }

    static void concededFromUp() {
        sentence(TERMS, "CONCEDED: a PLANK that is up and GROUNDED");
        ScaffoldReasons x = free(3);
        due("down and grounded", x.concede(0), false);
        up(x, 0, 1, 2);
        objecting(x, 1, 12);
        due("up and not grounded", x.concede(1), false);
        due("grounded in round 1", x.concede(2), true);
        due("grounded in round 0", x.concede(0), true);
        due("conceded", x.concede(0), false);
    }

    static void concededForGood() {
        sentence(TERMS, "it is neither up nor down any more");
        ScaffoldReasons x = up(free(2), 0, 1);
        x.concede(0);
        due("not up", x.is(3), 2);
        due("not down", x.gaps(), 0);
        due("not put up", x.put(0), false);
        due("not taken down", x.take(0), false);
        ruled(x, "falls 10;");
        due("the one that is up falls alone", x.hour(1), 1);
        due("it does not fall", x.is(4), 1);
        due("not down", x.gaps(), 2);
    }

    static void objectionsMadeAndDropped() {
        sentence(TERMS, "OBJECTIONS are made and dropped");
        ScaffoldReasons x = free(2);
        due("drop one that isn't", x.object(0, 1, false), false);
        due("make it", x.object(0, 1, true), true);
        due("make it twice", x.object(0, 1, true), false);
        due("drop it", x.object(0, 1, false), true);
        due("drop it twice", x.object(0, 1, false), false);
        due("the other way none was made", x.object(1, 0, false), false);
        due("make it again", x.object(0, 1, true), true);
    }

    static void drawsGoRound() {
        sentence(TERMS, "WIND is X mod 10 (X being (X * 593 + 461) mod 30829 then)");
        ScaffoldReasons x = free(0);
        for (int i = 0; i < 100; i++) {
            int before = x.is(1);
            x.hour(1);
            due("WIND", x.is(2), before % 10);
            due("X", x.is(1), (before * 593L + 461) % 30829);
        }
        // By 18323 (what 4) an hour passes, behind which X is 0, the least.
        x = free(0);
        x.years(8993, 1);
        due("X", x.is(1), 0);
        x.hour(1);
        due("WIND", x.is(2), 0);
        due("X", x.is(1), 461);
        x.hour(1);
        due("WIND", x.is(2), 1);
        due("X", x.is(1), 27202);
    }

    static void fallsByDrawBelow() {
        sentence(TERMS, "a draw by 10 (likewise): below falls");
        // The first draws are 7 (WIND), 8 (plank 0) and 9 (plank 1).
        due("8 is not below 8", ruled(up(free(1), 0), "falls 8;").hour(1), 0);
        due("8 is below 9", ruled(up(free(1), 0), "falls 9;").hour(1), 1);
        due("9 is not below 9", ruled(up(free(2), 0, 1), "falls number*9;").hour(1), 0);
        due("9 is below 10", ruled(up(free(2), 0, 1), "falls number*10;").hour(1), 1);
        ScaffoldReasons x = ruled(up(free(8), 0, 1, 2, 3, 4, 5, 6, 7), "falls 0;");
        due("by 0 none falls", x.hour(60), 0);
        x = ruled(up(free(8), 0, 1, 2, 3, 4, 5, 6, 7), "falls 10;");
        due("by 10 all fall", x.hour(1), 8);
        due("each by its own draw", x.is(1), 17073);
        due("those that are down have none", x.hour(1), 0);
        due("but WIND has", x.is(1), 12838);
    }

    static void fallsAsItIsThen() {
        sentence(TERMS, "(of all as it is then)");
        // Draws 7, 8, 9: WIND is 7 already when 0 is asked, and up is 1 when 1 is.
        ScaffoldReasons x = ruled(up(free(2), 0, 1), "falls if wind=7 then if up=2 then 9 else 10 end else 0 end;");
        due("both fall", x.hour(1), 2);
        x = ruled(up(free(2), 0, 1), "falls if up=2 then 9 else 0 end;");
        due("0 falls alone", x.hour(1), 1);
        due("up", x.is(3), 2);
        due("HOUR is the old one", ruled(up(free(1), 0), "falls if hour=0 then 10 else 0 end;").hour(1), 1);
    }

    static void fallsWithWhatRests() {
        sentence(TERMS, "it falls: down, and with it all that are up and REST on it, or on such a one");
        ScaffoldReasons x = new ScaffoldReasons();
        x.plank(1, 0);
        x.plank(1, 1);
        x.plank(1, 2);
        x.plank(1, 4);
        x.plank(1, 0);
        x.plank(1, 17);
        up(x, 0, 1, 2, 3, 4, 5);
        x.image();
        ruled(x, "falls if number=0 then 10 else 0 end;");
        due("the lowest of four on one another, and one on two", x.hour(1), 5);
        due("one that rests on none of them", x.is(3), 16);
        x.back();
        ruled(x, "falls if number=3 then 10 else 0 end;");
        due("the uppermost falls alone", x.hour(1), 1);
        due("up", x.is(3), 55);
        x.back();
        x.concede(2);
        ruled(x, "falls if number=0 then 10 else 0 end;");
        due("3 rests on a conceded one", x.hour(1), 3);
        due("up", x.is(3), 24);
    }

    static void fallsAreWritten() {
        sentence(TERMS, "each written down, by number");
        ScaffoldReasons x = new ScaffoldReasons();
        x.plank(1, 0);
        x.plank(1, 0);
        x.plank(1, 1);
        up(x, 0, 1, 2);
        ruled(x, "falls 10;");
        due("all fall", x.hour(1), 3);
        due("lines", x.book(NONE, 0), 6);
        int[] planks = {0, 2, 1};
        for (int i = 0; i < 3; i++) {
            due("0 with 2, then 1", x.book(3 + i, 1), planks[i]);
            due("fallen", x.book(3 + i, 2), 2);
        }
        due("WIND and two draws", x.is(1), 22372);
    }

    static void noneBeyond9999() {
        sentence(TERMS, "HOUR is one more (at 9999 none can pass)");
        ScaffoldReasons x = at(9998);
        due("the last", x.hour(1), 0);
        due("HOUR", x.is(0), 9999);
        int before = x.is(1);
        due("none can pass", x.hour(1), NONE);
        due("HOUR", x.is(0), 9999);
        due("no draw", x.is(1), before);
        due("no step", x.undo(), 29);
        due("HOUR", x.is(0), 9998);
    }

    static void whatStepsAre() {
        sentence(TERMS, "STEPS: PUT UP, TAKEN DOWN, CONCEDED, an OBJECTION, an HOUR (each), YEARS (see V)");
        ScaffoldReasons x = free(2);
        due("planks are none", x.about(3), 0);
        up(x, 0);
        due("put up", x.about(3), 1);
        x.take(0);
        due("taken down", x.about(3), 2);
        up(x, 0);
        x.concede(0);
        due("conceded", x.about(3), 4);
        x.object(0, 1, true);
        due("an objection made", x.about(3), 5);
        x.object(0, 1, false);
        due("and dropped", x.about(3), 6);
        x.hour(3);
        due("three hours", x.about(3), 9);
        x.years(3, 40);
        due("forty years", x.about(3), 10);
        x.put(0);
        x.take(0);
        x.concede(0);
        x.object(0, 1, x.of(0, 3) == 2);
        x.hour(0);
        x.years(0, 0);
        x.vote(123);
        x.said(0, 0);
        Texts.tell(x, "puts 0;");
        x.by(0);
        due("what can't be, and the rest", x.about(3), 10);
    }

    static void latest30Steps() {
        sentence(TERMS, "the latest 30 can be taken back, the latest first");
        ScaffoldReasons x = free(0);
        x.hour(30);
        due("30", x.about(3), 30);
        for (int i = 29; i >= 0; i--) {
            due("undo", x.undo(), i);
            due("HOUR", x.is(0), i);
        }
        due("no more", x.undo(), NONE);
        x.hour(31);
        due("31", x.about(3), 30);
        for (int i = 29; i >= 0; i--) {
            due("undo", x.undo(), i);
            due("HOUR", x.is(0), i + 1);
        }
        due("no more", x.undo(), NONE);
        due("HOUR", x.is(0), 1);
        x.hour(60);
        x.hour(14);
        due("75 hours", x.undo(), 29);
        due("HOUR", x.is(0), 74);
        x.hour(1);
        due("as many again", x.about(3), 30);
    }

    static void takenBackAsAhead() {
        sentence(TERMS, "(how PLANKS are, OBJECTIONS, WIND, HOUR, X, BOOK are as ahead of it");
        ScaffoldReasons x = free(1);
        for (int i = 0; i < 30; i++) {
            due("a line", i % 2 == 0 ? x.put(0) : x.take(0), true);
        }
        x.plank(1, 0);
        x.hour(1);
        List<Integer> before = seen(x);
        due("the eldest line", x.book(0, 2), 0);
        up(x, 1);
        due("the eldest line is gone", x.book(0, 2), 1);
        x.undo();
        due("the eldest line is back", x.book(0, 2), 0);
        due("as many lines", x.book(NONE, 0), 30);
        x.object(1, 1, true);
        x.undo();
        x.hour(1);
        x.undo();
        x.years(77, 40);
        x.undo();
        List<Integer> now = seen(x);
        // The first of the four drove the eldest step out, so there is one less.
        now.set(8, before.get(8));
        same("taken back", now, before);
    }

    static void toldSinceAreDown() {
        sentence(TERMS, "PLANKS told since are down)");
        ScaffoldReasons x = free(0);
        x.hour(1);
        x.plank(5, 0);
        up(x, 0);
        x.plank(5, 1);
        up(x, 1);
        x.concede(0);
        due("undo", x.undo(), 3);
        due("conceded no more", x.of(0, 2), 1);
        due("undo", x.undo(), 2);
        due("told since, down", x.of(1, 2), 0);
        due("undo", x.undo(), 1);
        due("told since, down", x.of(0, 2), 0);
        due("undo", x.undo(), 0);
        due("both are told yet", x.about(0), 2);
        due("up", x.is(3), 0);
        due("what it rests on", x.of(1, 1), 1);
        x = free(0);
        x.hour(1);
        x.plank(5, 0);
        x.undo();
        due("told since the step", x.of(0, 2), 0);
        due("it can be put up", x.put(0), true);
    }

    static void seedsAreBounded() {
        sentence(TERMS, "YEARS by a SEED: X is SEED (0 .. 9999) * 2 + 337");
        ScaffoldReasons x = free(0);
        due("-1", x.years(-1, 1), NONE);
        due("10000", x.years(10000, 1), NONE);
        due("X stays", x.is(1), 337);
        due("0", x.years(0, 1), 0);
        due("337 * 593 + 461", x.is(1), 15328);
        x.hour(2);
        due("9999: 20335 mod 7 is 0, of no plank", x.years(9999, 1), 2);
        due("20335 * 593 + 461", x.is(1), (20335L * 593 + 461) % 30829);
    }

    static void yearsAreBounded() {
        sentence(TERMS, "n times (1 .. 40)");
        ScaffoldReasons x = free(0);
        due("0", x.years(0, 0), NONE);
        due("41", x.years(0, 41), NONE);
        due("-1", x.years(0, -1), NONE);
        due("no step", x.about(3), 0);
        due("1", x.years(0, 1), 0);
        int hours = 0;
        long drawn = 337;
        for (int i = 0; i < 40; i++) {
            boolean passes = drawn % 7 > 3;
            drawn = (drawn * 593 + 461) % 30829;
            if (passes) {
                hours++;
                drawn = (drawn * 593 + 461) % 30829;
            }
        }
        due("40", x.years(0, 40), hours);
        due("X", x.is(1), drawn);
        due("two steps", x.about(3), 2);
    }

    static void yearsDoWhatCanBe() {
        sentence(TERMS, "0 PLANK x mod how many is PUT UP, 1 TAKEN DOWN, 2 CONCEDED (each if it can be)");
        // 17073 is 0 mod 7, 337 is 1, 9179 is 2; of one plank each is about plank 0.
        ScaffoldReasons x = free(1);
        x.years(0, 1);
        due("one that is down is not taken down", x.is(3), 0);
        x.years(4421, 1);
        due("nor conceded", x.is(4), 0);
        due("nothing is written", x.book(NONE, 0), 0);
        x.years(8368, 1);
        due("put up", x.is(3), 1);
        x.years(8368, 1);
        due("one that is up is not put up", x.book(NONE, 0), 1);
        x.years(4421, 1);
        due("conceded", x.is(4), 1);
        x.years(8368, 1);
        x.years(0, 1);
        x.years(4421, 1);
        due("no more with a conceded one", x.book(NONE, 0), 2);
        x = ruled(free(1), "puts 0;");
        x.years(8368, 1);
        due("the law holds in years", x.is(3), 0);
        x = objecting(up(free(1), 0), 0);
        x.years(4421, 1);
        due("one that isn't grounded", x.is(4), 0);
        x.years(0, 1);
        due("taken down", x.is(3), 0);
    }

    static void yearsObject() {
        sentence(TERMS, "3 its OBJECTION to PLANK x / 7 mod how many is made, if there is none, else dropped");
        // 10587 is 3 mod 7; 10587 / 7 is 1512.
        ScaffoldReasons x = free(8);
        x.years(5125, 1);
        due("of 8: 3 to 0", x.of(3, 3), 1);
        x.years(5125, 1);
        due("dropped", x.of(3, 3), 0);
        x = free(1);
        x.years(5125, 1);
        due("of 1: to itself", x.of(0, 3), 1);
        x.years(5125, 1);
        due("dropped", x.of(0, 3), 0);
        due("nothing is written", x.book(NONE, 0), 0);
        x.put(0);
        due("how it is doesn't matter", x.years(5125, 1), 0);
        due("made", x.of(0, 3), 1);
    }

    static void yearsPassHours() {
        sentence(TERMS, "4, 5, 6 an HOUR (if it can pass)");
        // 347 is 4 mod 7, 341 is 5, 349 is 6, 10587 is 3.
        ScaffoldReasons x = at(9995);
        due("3", x.years(5125, 1), 9995);
        due("4", x.years(5, 1), 9996);
        due("5", x.years(2, 1), 9997);
        due("6", x.years(6, 1), 9998);
        due("the last", x.years(6, 1), 9999);
        int wind = x.is(2);
        for (int seed : new int[] {2, 5, 6}) {
            due("none can pass", x.years(seed, 1), 9999);
            due("so that X is drawn once", x.is(1), ((seed * 2 + 337) * 593L + 461) % 30829);
            due("and WIND stays", x.is(2), wind);
        }
    }

    static void yearsWithoutPlanks() {
        sentence(TERMS, "What there are none of isn't");
        for (int seed : new int[] {8368, 0, 4421, 5125}) {
            ScaffoldReasons x = free(0);
            due("years", x.years(seed, 1), 0);
            due("X", x.is(1), ((seed * 2 + 337) * 593L + 461) % 30829);
            due("nothing is written", x.book(NONE, 0), 0);
            x.plank(5, 0);
            due("nothing was done", x.is(3) + x.is(4) + x.of(0, 3), 0);
        }
    }

    static void yearsAreOneStep() {
        sentence(TERMS, "It is one STEP: HOUR");
        ScaffoldReasons x = free(4);
        x.hour(2);
        List<Integer> before = seen(x);
        due("HOUR", x.years(1234, 40), x.is(0));
        due("hours have passed", x.is(0) > 2, true);
        due("one step", x.about(3), 3);
        due("undo", x.undo(), 2);
        same("undone", seen(x), before);
        x.years(8368, 1);
        due("though none of it could be", x.about(3), 3);
    }

    static void imageButTape() {
        sentence(TERMS, "AN IMAGE: all as it is, but the tape and the latest FAULT");
        ScaffoldReasons x = free(1);
        Texts.feed(x, "put 0;put");
        x.image();
        due("text", x.text(), NONE);
        due("fault", x.fault(0), 1);
        Texts.feed(x, "put");
        x.back();
        due("the tape is the later one", x.about(6), 3);
        due("the fault is the later one", x.fault(0), 1);
        due("and its place", x.fault(1), 9);
        x.end(0);
        x.text();
        due("no fault", x.fault(0), 0);
        x.back();
        due("the text is gone", x.about(1), 0);
        due("that it was read is not", x.fault(0), 0);
        due("and that it had no place", x.fault(1), NONE);
    }

    static void backToAll() {
        sentence(TERMS, "BACK: all is so again");
        ScaffoldReasons x = objecting(up(house(), 0, 1, 2), 1, 22);
        ruled(x, "falls number+1;");
        x.vote(3210);
        x.said(0, 1);
        x.hour(1);
        List<Integer> before = seen(x);
        x.image();
        for (int i = 0; i < 2; i++) {
            x.plank(9, 15);
            Texts.tell(x, "");
            x.by(NONE);
            x.vote(NONE);
            x.vote(123);
            x.said(NONE, 0);
            x.said(1, 9);
            x.years(99, 40);
            x.object(3, 3, true);
            // More steps than are kept, so that none of the image's is left but in the image.
            x.hour(40 + i);
            x.back();
            same("back", seen(x), before);
            due("what was said is so again", x.whose(), 1);
        }
        due("the steps too", x.undo(), 5);
        due("HOUR", x.is(0), 0);
        due("undo", x.undo(), 4);
        due("objections", x.of(2, 3), 0);
        due("undo", x.undo(), 3);
        due("undo", x.undo(), 2);
        due("undo", x.undo(), 1);
        due("up", x.is(3), 1);
        due("undo", x.undo(), 0);
        due("up", x.is(3), 0);
        due("HOUR", x.is(0), 0);
        due("X", x.is(1), 337);
        due("undo", x.undo(), NONE);
    }
}
