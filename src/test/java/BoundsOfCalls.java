import java.util.List;
import java.util.function.IntConsumer;
import java.util.function.IntUnaryOperator;

/** The sentences of the promises 1 to 54. */
final class BoundsOfCalls extends Bounds {
    private static final int[] FAR = {MIN, MIN + 1, MIN + 32, -65536, -257, -256, -101, -100, -64, -33, -32, -31, -9, -8, -7, -3, -2, -1,
        0, 1, 2, 3, 4, 5, 6, 7, 8, 9, 10, 11, 15, 16, 31, 32, 33, 61, 63, 64, 65, 255, 256, 257, 300, 301, 9999, 10000, 65536,
        MAX - 31, MAX - 1, MAX};

    private BoundsOfCalls() { }

    /** Numbers near and far that are not within least .. most. */
    private static void others(int least, int most, IntConsumer ask) {
        for (int far : FAR) {
            if (far < least || far > most) {
                ask.accept(far);
            }
        }
        ask.accept(least - 1);
        ask.accept(most + 1);
    }

    private static void refuses(String what, int least, int most, int want, IntUnaryOperator ask) {
        others(least, most, far -> due(what + " " + far, ask.applyAsInt(far), want));
    }

    private static int asNumber(boolean is) {
        return is ? 1 : 0;
    }

    /** Four planks, 0 and 1 up, 2 conceded, some objections, a text, a vote, something said, one hour. */
    private static ScaffoldReasons lived() {
        ScaffoldReasons x = objecting(up(house(), 0, 1, 2), 1, 33);
        x.concede(2);
        Texts.tell(x, "puts 1;falls 2;");
        x.vote(2130);
        x.said(0, 2);
        x.hour(1);
        return x;
    }

    static void p01RoundNothing() {
        sentence(1, "Round nothing; THE IMAGE is this");
        ScaffoldReasons x = new ScaffoldReasons();
        List<Integer> first = seen(x);
        int[] due = {0, 337, 0, 0, 0, 0, 0, NONE, 0, 0, 0, 0};
        for (int i = 0; i < due.length; i++) {
            due("is, about", first.get(i), due[i]);
        }
        x.plank(5, 0);
        up(x, 0);
        x.hour(3);
        x.vote(123);
        x.said(0, 0);
        Texts.tell(x, "");
        x.by(0);
        due("back without an image", x.back(), 0);
        List<Integer> again = seen(x);
        // A text was read meanwhile, without a fault: the image does not have that.
        again.set(again.size() - 2, first.get(first.size() - 2));
        same("back", again, first);
        due("no step", x.undo(), NONE);
    }

    static void p02Numbers() {
        sentence(2, "A PLANK: its number");
        ScaffoldReasons x = free(0);
        for (int i = 0; i < 8; i++) {
            due("plank", x.plank(9 - i, (1 << i) - 1), i);
        }
        for (int i = 0; i < 8; i++) {
            due("weight", x.of(i, 0), 9 - i);
            due("rests", x.of(i, 1), (1 << i) - 1);
        }
    }

    static void p02Others() {
        sentence(2, "NONE for others (weight 1 .. 9; bits of PLANKS told ahead), or if there are 8");
        ScaffoldReasons x = free(2);
        refuses("weight", 1, 9, NONE, w -> x.plank(w, 0));
        refuses("rests", 0, 3, NONE, r -> x.plank(5, r));
        due("none was told", x.about(0), 2);
        due("the least", x.plank(1, 0), 2);
        due("the most", x.plank(9, 7), 3);
        ScaffoldReasons y = free(8);
        due("there are 8", y.plank(5, 0), NONE);
        due("there are 8", y.plank(5, 255), NONE);
        due("there are 8", y.plank(5, 256), NONE);
        due("planks", y.about(0), 8);
        due("the last is as it was", y.of(7, 0), 5);
    }

    static void p03Twenty() {
        sentence(3, "Twenty bytes come behind the tape, the highest of a first: how many it has");
        ScaffoldReasons x = free(0);
        due("20", x.feed('p' << 24 | 'u' << 16 | 't' << 8 | ' ', '0' << 24 | ';' << 16 | ' ' << 8 | ' ', 0x20202020, 0x20202020, 0x20202020), 20);
        due("40", x.feed(0x20202020, 0x20202020, 0x20202020, 0x20202020, 0x202020ff), 40);
        due("text", x.text(), NONE);
        due("the last byte of all (255)", x.fault(1), 39);
        int[] numbers = {MIN, MAX, -1, 0x00ffffff, 0xff000000};
        for (int n : numbers) {
            due("any number", x.feed(n, n, n, n, n), 20);
            due("text", x.text(), NONE);
            due("no blank", x.fault(1), 0);
        }
        for (int place = 0; place < 20; place++) {
            int[] f = {0x20202020, 0x20202020, 0x20202020, 0x20202020, 0x20202020};
            f[place / 4] ^= 0x1f << 24 - place % 4 * 8;
            x.feed(f[0], f[1], f[2], f[3], f[4]);
            x.text();
            due("the byte that is no blank", x.fault(1), place);
        }
    }

    static void p03MoreThan300() {
        sentence(3, "NONE, and none come, if there would be more than 300");
        ScaffoldReasons x = free(0);
        for (int i = 1; i <= 15; i++) {
            due("feed", x.feed(0x20202020, 0x20202020, 0x20202020, 0x20202020, 0x20202020), 20 * i);
        }
        due("320", x.feed(0, 0, 0, 0, 0), NONE);
        due("none came", x.about(6), 300);
        for (int n = 299; n > 280; n--) {
            x.end(n);
            due(n + " and 20", x.feed(0, 0, 0, 0, 0), NONE);
            due("none came", x.about(6), n);
        }
        x.end(280);
        due("280 and 20", x.feed(0x20202020, 0x20202020, 0x20202020, 0x20202020, 0x20202020), 300);
        due("none had come: all are blanks", x.text(), 0);
    }

    static void p04FirstAlone() {
        sentence(4, "The tape has its first n bytes alone: n");
        ScaffoldReasons x = free(0);
        due("none of none", x.end(0), 0);
        Texts.feed(x, "hour 1;hour ");
        due("all", x.end(12), 12);
        due("the first", x.end(7), 7);
        due("has", x.about(6), 7);
        due("feed goes on behind them", x.feed(0x686f7572, 0x20313b20, 0x20202020, 0x20202020, 0x20202020), 27);
        due("text", x.text(), 0);
        due("played", x.played(0), NONE);
        due("both", x.is(0), 2);
        Texts.feed(x, "?");
        due("none", x.end(0), 0);
        due("text", x.text(), 1);
    }

    static void p04NotSoMany() {
        sentence(4, "NONE, and nothing is done, if it has not so many, or n is below 0");
        ScaffoldReasons x = free(0);
        Texts.feed(x, "hour 1;");
        refuses("end", 0, 7, NONE, x::end);
        due("nothing is done", x.about(6), 7);
        x.end(6);
        due("what was cut is gone", x.end(7), NONE);
        due("has", x.about(6), 6);
        due("text", x.text(), NONE);
        due("of an empty one", x.end(1), NONE);
        due("of an empty one", x.end(0), 0);
    }

    static void p05EmptyThen() {
        sentence(5, "The tape (empty then) is a TEXT: its number");
        ScaffoldReasons x = free(0);
        due("of an empty tape", x.text(), 0);
        Texts.feed(x, "hour 1;");
        due("text", x.text(), 1);
        due("empty then", x.about(6), 0);
        due("end", x.end(1), NONE);
        due("of the empty tape again", x.text(), 2);
        due("nothing in it", x.played(2), NONE);
        due("nothing in it", x.is(0), 0);
        due("texts", x.about(1), 3);
    }

    static void p05FaultOrFour() {
        sentence(5, "NONE: it has a FAULT; or (the tape stays) there are 4");
        ScaffoldReasons x = free(0);
        Texts.feed(x, "hour 1");
        due("a fault", x.text(), NONE);
        due("its tape is empty then", x.about(6), 0);
        due("no text", x.about(1), 0);
        Texts.tell(x, "falls 5;puts 5;hour 1;?");
        for (int i = 0; i < 4; i++) {
            due("text", x.text(), i);
        }
        due("nothing of the faulty one is left in it", x.played(0), NONE);
        due("nothing of the faulty one is left in it", x.is(0), 0);
        x.by(0);
        x.plank(5, 0);
        due("nothing of the faulty one is left in it", x.of(0, 5), 1);
        due("nothing of the faulty one is left in it", x.of(0, 6), 0);
        Texts.feed(x, "hour 1;");
        due("there are 4", x.text(), NONE);
        due("the tape stays", x.about(6), 7);
        due("again", x.text(), NONE);
        due("texts", x.about(1), 4);
        due("feed", x.feed(0, 0, 0, 0, 0), 27);
    }

    static void p06LatestRead() {
        sentence(6, "Of the latest text that was read: 0 its FAULT (0 without), 1 its place (NONE without)");
        ScaffoldReasons x = free(0);
        Texts.tell(x, "put 8;");
        due("fault", x.fault(0), 2);
        due("place", x.fault(1), 4);
        Texts.tell(x, "?");
        due("fault", x.fault(0), 1);
        due("at the very first byte", x.fault(1), 0);
        Texts.tell(x, "");
        due("without", x.fault(0), 0);
        due("without", x.fault(1), NONE);
        Texts.tell(x, "?");
        x.text();
        x.text();
        x.text();
        Texts.tell(x, "put 8;");
        due("one that was not read, as there are 4", x.fault(0), 0);
        due("one that was not read, as there are 4", x.fault(1), NONE);
    }

    static void p06Others() {
        sentence(6, "NONE for others, and ahead of any");
        ScaffoldReasons x = free(0);
        due("ahead of any", x.fault(0), NONE);
        due("ahead of any", x.fault(1), NONE);
        Texts.feed(x, "?");
        due("ahead of any", x.fault(0), NONE);
        refuses("ahead of any", 0, 1, NONE, x::fault);
        x.text();
        refuses("others", 0, 1, NONE, x::fault);
        due("fault", x.fault(0), 1);
    }

    static void p07None() {
        sentence(7, "THE TEXT (NONE: none): true");
        ScaffoldReasons x = free(0);
        due("none, ahead of any text", x.by(NONE), true);
        for (int i = 0; i < 4; i++) {
            x.text();
            due("by", x.by(i), true);
            due("rules", x.about(2), i);
        }
        due("again", x.by(3), true);
        due("the first", x.by(0), true);
        due("rules", x.about(2), 0);
        due("none", x.by(NONE), true);
        due("rules", x.about(2), NONE);
    }

    static void p07Others() {
        sentence(7, "False for others");
        ScaffoldReasons x = free(0);
        due("no text yet", x.by(0), false);
        x.text();
        x.text();
        x.by(1);
        refuses("by", NONE, 1, 0, t -> asNumber(x.by(t)));
        due("it rules yet", x.about(2), 1);
        Texts.tell(x, "?");
        due("one with a fault is none", x.by(2), false);
    }

    static void p08True() {
        sentence(8, "PUT UP: true");
        ScaffoldReasons x = free(8);
        due("the first", x.put(0), true);
        due("the last", x.put(7), true);
        due("up", x.is(3), 129);
        due("lines", x.ledger(0), 2);
    }

    static void p08Others() {
        sentence(8, "False, if it can't be, and for others");
        ScaffoldReasons x = lived();
        List<Integer> before = seen(x);
        due("up", x.put(0), false);
        due("conceded", x.put(2), false);
        refuses("put", 0, 3, 0, p -> asNumber(x.put(p)));
        same("refused", seen(x), before);
        ScaffoldReasons y = free(0);
        due("no plank", y.put(0), false);
        ScaffoldReasons z = house();
        due("it rests on one that is down", z.put(1), false);
        ruled(z, "puts 0;");
        due("by law", z.put(0), false);
        due("no step", z.about(3), 0);
    }

    static void p09True() {
        sentence(9, "TAKEN DOWN: true");
        ScaffoldReasons x = up(free(8), 0, 7);
        due("the first", x.take(0), true);
        due("the last", x.take(7), true);
        due("up", x.is(3), 0);
        due("lines", x.ledger(1), 2);
    }

    static void p09Others() {
        sentence(9, "False, if it can't be, and for others");
        ScaffoldReasons x = lived();
        List<Integer> before = seen(x);
        due("under one that is up", x.take(0), false);
        due("conceded", x.take(2), false);
        due("down", x.take(3), false);
        refuses("take", 0, 3, 0, p -> asNumber(x.take(p)));
        same("refused", seen(x), before);
    }

    static void p10True() {
        sentence(10, "CONCEDED: true");
        ScaffoldReasons x = up(free(8), 0, 7);
        due("the first", x.concede(0), true);
        due("the last", x.concede(7), true);
        due("conceded", x.is(4), 129);
        due("lines", x.ledger(3), 2);
    }

    static void p10Others() {
        sentence(10, "False, if it can't be, and for others");
        ScaffoldReasons x = lived();
        List<Integer> before = seen(x);
        due("not grounded", x.concede(1), false);
        due("conceded", x.concede(2), false);
        due("down", x.concede(3), false);
        refuses("concede", 0, 3, 0, p -> asNumber(x.concede(p)));
        same("refused", seen(x), before);
    }

    static void p11True() {
        sentence(11, "An OBJECTION made, or dropped: true");
        ScaffoldReasons x = free(8);
        for (int tens : new int[] {0, 7, 70, 77}) {
            due("made", x.object(tens / 10, tens % 10, true), true);
        }
        due("made", x.of(7, 4), 129);
        for (int tens : new int[] {0, 7, 70, 77}) {
            due("dropped", x.object(tens / 10, tens % 10, false), true);
        }
        due("dropped", x.of(0, 3) | x.of(7, 3), 0);
        due("eight steps", x.about(3), 8);
    }

    static void p11Others() {
        sentence(11, "False, if it is so, and for others");
        ScaffoldReasons x = lived();
        List<Integer> before = seen(x);
        due("it is so", x.object(0, 1, true), false);
        due("it is so", x.object(1, 0, false), false);
        others(0, 3, far -> {
            due("from " + far, x.object(far, 0, true), false);
            due("to " + far, x.object(0, far, true), false);
        });
        due("drop", x.object(4, 0, false), false);
        due("drop", x.object(0, 4, false), false);
        due("drop", x.object(MIN, MAX, false), false);
        same("refused", seen(x), before);
    }

    static void p12HowManyFall() {
        sentence(12, "HOURS pass (1 .. 60): how many PLANKS fall in them");
        ScaffoldReasons x = up(free(8), 0, 1, 2, 3, 4, 5, 6, 7);
        ruled(x, "falls if hour=1 then 10 else 0 end;");
        due("1: none", x.hour(1), 0);
        due("1: all", x.hour(1), 8);
        due("60", x.hour(60), 0);
        due("HOUR", x.is(0), 62);
        x = up(free(8), 0, 1, 2, 3, 4, 5, 6, 7);
        ruled(x, "falls if hour=number*8 then 10 else 0 end;");
        due("60: one after the other", x.hour(60), 8);
        due("HOUR", x.is(0), 60);
        x = up(house(), 0, 1, 2, 3);
        ruled(x, "falls if number=0 then 10 else 0 end;");
        due("those that fall with it too", x.hour(2), 3);
    }

    static void p12Others() {
        sentence(12, "NONE for others, or beyond 9999 (nothing is done then)");
        ScaffoldReasons x = lived();
        List<Integer> before = seen(x);
        refuses("hour", 1, 60, NONE, x::hour);
        same("refused", seen(x), before);
        ScaffoldReasons y = at(9941);
        List<Integer> late = seen(y);
        due("to 10001", y.hour(60), NONE);
        due("to 10000", y.hour(59), NONE);
        same("refused", seen(y), late);
        due("to 9999", y.hour(58), 0);
        due("HOUR", y.is(0), 9999);
        due("no more", y.hour(1), NONE);
        due("no more", y.hour(MAX), NONE);
    }

    static void p13AllIsDone() {
        sentence(13, "PLAYED by a TEXT: NONE: all is done; else the number of the CLAUSE that can't be");
        ScaffoldReasons x = free(0);
        x.text();
        Texts.tell(x, "put 0;");
        Texts.tell(x, "hour 1;".repeat(23) + "put 0;");
        due("nothing to do", x.played(0), NONE);
        due("the first can't be", x.played(1), 0);
        due("the last can't be", x.played(2), 23);
        x.plank(5, 0);
        due("all is done", x.played(1), NONE);
        x.take(0);
        due("all 24 are done", x.played(2), NONE);
        due("HOUR", x.is(0), 46);
    }

    static void p13Others() {
        sentence(13, "-2 for others");
        ScaffoldReasons x = free(0);
        due("no text", x.played(0), -2);
        Texts.tell(x, "hour 1;");
        Texts.tell(x, "?");
        refuses("played", 0, 0, -2, x::played);
        x.by(0);
        due("NONE is none", x.played(NONE), -2);
        due("nothing was done", x.is(0), 0);
        x.image();
        Texts.tell(x, "hour 1;");
        due("the second", x.played(1), NONE);
        x.back();
        due("it is gone", x.played(1), -2);
    }

    static void p14Hour() {
        sentence(14, "YEARS: HOUR");
        ScaffoldReasons x = free(0);
        due("no hour: by 337 (what 1)", x.years(0, 1), 0);
        due("one: then by 15328 (what 5)", x.years(0, 2), 1);
        x.hour(5);
        due("behind those that were", x.years(0, 2), 7);
        due("the same as asked", x.years(9999, 40), x.is(0));
    }

    static void p14Others() {
        sentence(14, "NONE for others");
        ScaffoldReasons x = lived();
        List<Integer> before = seen(x);
        refuses("seed", 0, 9999, NONE, s -> x.years(s, 1));
        refuses("years", 1, 40, NONE, n -> x.years(0, n));
        due("both", x.years(-1, 0), NONE);
        same("refused", seen(x), before);
        due("the least", x.years(0, 1), 1);
        due("the most", x.years(9999, 40) > 0, true);
    }

    static void p15HowManyYet() {
        sentence(15, "The latest STEP is taken back: how many can be yet");
        ScaffoldReasons x = free(1);
        up(x, 0);
        due("the only one", x.undo(), 0);
        due("down", x.is(3), 0);
        x.hour(60);
        due("of 30", x.undo(), 29);
        due("HOUR", x.is(0), 59);
    }

    static void p15ThereIsNone() {
        sentence(15, "NONE: there is none");
        ScaffoldReasons x = free(1);
        due("none", x.undo(), NONE);
        x.hour(40);
        for (int i = 29; i >= 0; i--) {
            due("undo", x.undo(), i);
        }
        List<Integer> before = seen(x);
        due("none", x.undo(), NONE);
        due("none", x.undo(), NONE);
        same("refused", seen(x), before);
        due("HOUR", x.is(0), 10);
    }

    static void p16OfAPlank() {
        sentence(16, "0 WEIGHT, 1 on which it rests (bits), 2 how it is (0 down, 1 up, 2 conceded), 3 to which it objects (bits), 4 which object to it (bits), 5 puts, 6 falls now");
        ScaffoldReasons x = free(7);
        x.plank(9, 127);
        int[] first = {9, 127, 0, 0, 0, 1, 0};
        for (int what = 0; what < 7; what++) {
            due("of 7, " + what, x.of(7, what), first[what]);
        }
        objecting(x, 7, 17, 27, 37, 47, 57, 67, 77, 70, 71, 72, 73, 74, 75, 76);
        due("to all", x.of(7, 3), 255);
        due("by all", x.of(7, 4), 255);
        ruled(x, "puts -100;falls wind+3;");
        due("puts", x.of(7, 5), -99);
        due("falls", x.of(7, 6), 3);
        x.hour(1);
        due("falls now", x.of(7, 6), 10);
    }

    static void p16Others() {
        sentence(16, "-100 for others");
        ScaffoldReasons x = lived();
        refuses("what", 0, 6, -100, what -> x.of(0, what));
        refuses("plank", 0, 3, -100, p -> x.of(p, 0));
        refuses("plank", 0, 3, -100, p -> x.of(p, 5));
        due("no plank", free(0).of(0, 0), -100);
        due("no plank, nothing", free(0).of(-1, 7), -100);
    }

    static void p17Is() {
        sentence(17, "0 HOUR, 1 X, 2 WIND, 3 PLANKS up (bits), 4 PLANKS conceded (bits)");
        ScaffoldReasons x = up(free(8), 0, 1, 2, 3, 4, 5, 6, 7);
        due("all up", x.is(3), 255);
        due("none conceded", x.is(4), 0);
        for (int i = 0; i < 8; i++) {
            x.concede(i);
        }
        due("none up", x.is(3), 0);
        due("all conceded", x.is(4), 255);
        x.hour(1);
        due("HOUR", x.is(0), 1);
        due("X: one draw", x.is(1), 15328);
        due("WIND", x.is(2), 7);
    }

    static void p17Others() {
        sentence(17, "-2 for others");
        ScaffoldReasons x = lived();
        refuses("is", 0, 4, -2, x::is);
    }

    static void p18Lines() {
        sentence(18, "BOOK: how many (i NONE); the i-th, from the eldest on: 0 HOUR, 1 PLANK, 2 what (0 put up, 1 taken down, 2 fallen, 3 conceded), 3 WIND");
        ScaffoldReasons x = at(9999);
        for (int i = 0; i < 8; i++) {
            x.plank(5, 0);
        }
        due("none", x.book(NONE, 0), 0);
        up(x, 7);
        x.concede(7);
        up(x, 0);
        x.take(0);
        due("four", x.book(NONE, 0), 4);
        int[] planks = {7, 7, 0, 0};
        int[] whats = {0, 3, 0, 1};
        for (int i = 0; i < 4; i++) {
            due("HOUR, the most", x.book(i, 0), 9999);
            due("PLANK", x.book(i, 1), planks[i]);
            due("what", x.book(i, 2), whats[i]);
            due("WIND", x.book(i, 3), x.is(2));
        }
        // Draws 7, 8 and 9, 2: the fall is written by WIND 9, ahead of HOUR being one more.
        x = new ScaffoldReasons();
        x.plank(1, 0);
        up(x, 0);
        x.hour(2);
        int[] line = {1, 0, 2, 9};
        for (int what = 0; what < 4; what++) {
            due("fallen, " + what, x.book(1, what), line[what]);
        }
    }

    static void p18NoneSuch() {
        sentence(18, "-2 if there is none such, and for others");
        ScaffoldReasons x = up(free(2), 0, 1);
        refuses("what", 0, 3, -2, what -> x.book(0, what));
        others(NONE, 1, i -> due("line " + i, x.book(i, 0), -2));
        due("of none", free(1).book(0, 0), -2);
        for (int i = 0; i < 20; i++) {
            x.take(0);
            x.put(0);
        }
        due("the 30th", x.book(29, 1), 0);
        due("the 31st", x.book(30, 1), -2);
    }

    static void p19Foretold() {
        sentence(19, "FORETOLD: PLANKS up (bits)");
        ScaffoldReasons x = up(free(8), 0, 1, 2, 3, 4, 5, 6, 7);
        ruled(x, "falls if hour=59 then 10 else 0 end;");
        due("1", x.foretold(1), 255);
        due("59", x.foretold(59), 255);
        due("60", x.foretold(60), 0);
        x = up(free(2), 0, 1);
        x.concede(0);
        due("a conceded one is not up", x.foretold(1), 2);
    }

    static void p19Others() {
        sentence(19, "-2 for others");
        ScaffoldReasons x = up(free(1), 0);
        refuses("foretold", 1, 60, -2, x::foretold);
        ScaffoldReasons late = at(9999);
        refuses("at 9999 too", 1, 60, -2, late::foretold);
    }

    static void p20Holds() {
        sentence(20, "Whether PLANKS hold");
        ScaffoldReasons x = objecting(free(8), 7);
        due("none", x.holds(0), true);
        due("all but the last", x.holds(127), true);
        due("all", x.holds(255), false);
    }

    static void p20Others() {
        sentence(20, "False for others");
        ScaffoldReasons x = free(2);
        refuses("holds", 0, 3, 0, set -> asNumber(x.holds(set)));
        due("of no planks", free(0).holds(1), false);
        due("of no planks", free(0).holds(0), true);
        due("of eight", free(8).holds(256), false);
    }

    static void p21Grounded() {
        sentence(21, "GROUNDED (bits)");
        due("none of none", free(0).grounded(), 0);
        due("all", free(8).grounded(), 255);
        due("all but the last", objecting(free(8), 7).grounded(), 127);
        due("none", objecting(free(1), 0).grounded(), 0);
    }

    static void p22Round() {
        sentence(22, "by which ROUND it is in");
        ScaffoldReasons x = objecting(free(7), 1, 12, 23, 34, 45, 56);
        due("0", x.round(0), 0);
        due("the last", x.round(6), 3);
    }

    static void p22Others() {
        sentence(22, "NONE: never, and for others");
        ScaffoldReasons x = objecting(free(2), 1);
        due("never", x.round(1), NONE);
        due("never", objecting(free(1), 0).round(0), NONE);
        refuses("round", 0, 1, NONE, x::round);
        due("no plank", free(0).round(0), NONE);
    }

    static void p23Stables() {
        sentence(23, "STABLE sets: how many (i NONE), the i-th");
        ScaffoldReasons x = objecting(free(2), 1, 10);
        due("how many", x.stables(NONE), 2);
        due("the first", x.stables(0), 1);
        due("the last", x.stables(1), 2);
        due("none", objecting(free(1), 0).stables(NONE), 0);
        due("the empty one of none", free(0).stables(NONE), 1);
        due("the empty one of none", free(0).stables(0), 0);
    }

    static void p23NoneSuch() {
        sentence(23, "-2 if there is none such");
        ScaffoldReasons x = objecting(free(2), 1, 10);
        others(NONE, 1, i -> due("stables " + i, x.stables(i), -2));
        due("none", objecting(free(1), 0).stables(0), -2);
    }

    static void p24Preferred() {
        sentence(24, "PREFERRED sets: how many (i NONE), the i-th");
        ScaffoldReasons x = objecting(free(2), 1, 10);
        due("how many", x.preferred(NONE), 2);
        due("the first", x.preferred(0), 1);
        due("the last", x.preferred(1), 2);
        due("always one", objecting(free(1), 0).preferred(NONE), 1);
        due("the empty one", objecting(free(1), 0).preferred(0), 0);
    }

    static void p24NoneSuch() {
        sentence(24, "-2 if there is none such");
        ScaffoldReasons x = objecting(free(2), 1, 10);
        others(NONE, 1, i -> due("preferred " + i, x.preferred(i), -2));
        due("behind the empty one", free(0).preferred(1), -2);
    }

    static void p25Naive() {
        sentence(25, "NAIVE sets: how many (i NONE), the i-th");
        ScaffoldReasons x = objecting(free(2), 1);
        due("how many", x.naive(NONE), 2);
        due("the first", x.naive(0), 1);
        due("the last", x.naive(1), 2);
        due("always one", objecting(free(1), 0).naive(NONE), 1);
        due("the empty one", objecting(free(1), 0).naive(0), 0);
        // All against all: each by itself.
        ScaffoldReasons y = free(8);
        for (int i = 0; i < 7; i++) {
            for (int j = i + 1; j < 8; j++) {
                y.object(i, j, true);
            }
        }
        due("eight", y.naive(NONE), 8);
        due("the last", y.naive(7), 128);
    }

    static void p25NoneSuch() {
        sentence(25, "-2 if there is none such");
        ScaffoldReasons x = objecting(free(2), 1);
        others(NONE, 1, i -> due("naive " + i, x.naive(i), -2));
        due("behind the empty one", free(0).naive(1), -2);
    }

    static void p26Ring() {
        sentence(26, "A RING");
        due("to itself", objecting(free(8), 77).ring(7), 1);
        due("of two", objecting(free(8), 70, 7).ring(7), 2);
        due("of eight", objecting(free(8), 1, 12, 23, 34, 45, 56, 67, 70).ring(4), 8);
    }

    static void p26Others() {
        sentence(26, "NONE: none, and for others");
        ScaffoldReasons x = objecting(free(2), 0, 11);
        refuses("ring", 0, 1, NONE, x::ring);
        due("none", free(1).ring(0), NONE);
        due("one way only", objecting(free(2), 1).ring(0), NONE);
        due("one way only", objecting(free(2), 1).ring(1), NONE);
        due("no plank", free(0).ring(0), NONE);
    }

    static void p27InSets() {
        sentence(27, "IN: how many PREFERRED sets it is in (all false); whether it is in all (all true; 1, 0)");
        ScaffoldReasons x = objecting(free(4), 1, 10, 33);
        due("one of two", x.inSets(0, false), 1);
        due("not in all", x.inSets(0, true), 0);
        due("both", x.inSets(2, false), 2);
        due("in all", x.inSets(2, true), 1);
        due("none", x.inSets(3, false), 0);
        due("not in all", x.inSets(3, true), 0);
        due("the empty one alone", objecting(free(1), 0).inSets(0, false), 0);
        due("the empty one alone", objecting(free(1), 0).inSets(0, true), 0);
    }

    static void p27Others() {
        sentence(27, "NONE for others");
        ScaffoldReasons x = free(2);
        refuses("inSets", 0, 1, NONE, p -> x.inSets(p, false));
        refuses("inSets", 0, 1, NONE, p -> x.inSets(p, true));
        due("no plank", free(0).inSets(0, true), NONE);
    }

    static void p28Repair() {
        sentence(28, "REPAIRED: how many OBJECTIONS (many true), the first of them, 10 times the one that objects and the other one (many false; NONE: none need be)");
        due("none need be", free(1).repair(0, true), 0);
        due("none need be", free(1).repair(0, false), NONE);
        due("it is grounded by others", objecting(free(3), 1, 12).repair(2, false), NONE);
        due("0 and 0", objecting(free(1), 0).repair(0, false), 0);
        due("one", objecting(free(1), 0).repair(0, true), 1);
        due("7 and 6", objecting(free(8), 76).repair(6, false), 76);
        due("three", objecting(free(8), 76, 66, 6).repair(6, true), 3);
        due("the first of three", objecting(free(8), 76, 66, 6).repair(6, false), 6);
    }

    static void p28NoWay() {
        sentence(28, "-2: no way by 3, and for others");
        ScaffoldReasons x = objecting(free(5), 0, 10, 20, 30);
        due("no way by 3", x.repair(0, true), -2);
        due("no way by 3", x.repair(0, false), -2);
        x.object(3, 0, false);
        due("3", x.repair(0, true), 3);
        refuses("repair", 0, 4, -2, p -> x.repair(p, true));
        refuses("repair", 0, 4, -2, p -> x.repair(p, false));
        due("no plank", free(0).repair(0, true), -2);
    }

    static void p29Heaviest() {
        sentence(29, "HEAVIEST: PLANKS (weight false; bits), WEIGHT together (weight true)");
        due("of none", free(0).heaviest(false), 0);
        due("of none", free(0).heaviest(true), 0);
        due("eight", free(8).heaviest(false), 255);
        due("eight", free(8).heaviest(true), 40);
        due("none can be", objecting(free(2), 0, 11).heaviest(false), 0);
        due("none can be", objecting(free(2), 0, 11).heaviest(true), 0);
        due("the last", objecting(free(2), 0).heaviest(false), 2);
    }

    static void p30Explain() {
        sentence(30, "EXPLAINED: how many (i NONE), the i-th, 10 times the one and the other one");
        ScaffoldReasons x = free(8);
        due("how many", x.explain(127, NONE), 8);
        due("the first", x.explain(127, 0), 7);
        due("the last", x.explain(127, 7), 77);
        due("none", x.explain(0, NONE), 0);
        due("none", x.explain(255, NONE), 0);
        due("0 to 0", free(1).explain(0, 0), 0);
    }

    static void p30Others() {
        sentence(30, "-2 for others, or if there is none such");
        ScaffoldReasons x = free(2);
        others(0, 3, set -> {
            due("planks " + set, x.explain(set, 0), -2);
            due("planks " + set, x.explain(set, NONE), -2);
        });
        others(NONE, 1, i -> due("the " + i + "-th", x.explain(1, i), -2));
        due("none such", x.explain(3, 0), -2);
        due("of no planks", free(0).explain(0, 0), -2);
        due("of no planks", free(0).explain(0, NONE), 0);
    }

    static void p31Orders() {
        sentence(31, "ORDERS");
        due("of none", free(8).orders(0), 1);
        due("of one", free(8).orders(128), 1);
        due("of eight", free(8).orders(255), 40320);
        due("of no planks", free(0).orders(0), 1);
    }

    static void p31Others() {
        sentence(31, "NONE for others");
        ScaffoldReasons x = free(2);
        others(0, 3, set -> due("orders " + set, x.orders(set), NONE));
        due("of eight", free(8).orders(256), NONE);
        due("of no planks", free(0).orders(1), NONE);
    }

    static void p32Order() {
        sentence(32, "AN ORDER: the i-th");
        ScaffoldReasons x = free(8);
        due("the first", x.order(255, 0), 0);
        due("the last", x.order(255, 7), 7);
        due("the only one", x.order(128, 0), 7);
        due("of two", x.order(130, 1), 7);
    }

    static void p32Others() {
        sentence(32, "-2: none, there is none such, and for others");
        ScaffoldReasons x = free(8);
        due("none", x.order(0, 0), -2);
        refuses("the i-th", 0, 7, -2, i -> x.order(255, i));
        refuses("of one", 0, 0, -2, i -> x.order(4, i));
        refuses("planks", 0, 255, -2, set -> x.order(set, 0));
        due("of no planks", free(0).order(0, 0), -2);
        due("of no planks", free(0).order(1, 0), -2);
    }

    static void p33All() {
        sentence(33, "ALL UNDER (bits)");
        ScaffoldReasons x = free(7);
        x.plank(1, 127);
        due("none", x.all(0), 0);
        due("seven", x.all(7), 127);
    }

    static void p33Others() {
        sentence(33, "NONE for others");
        ScaffoldReasons x = free(2);
        refuses("all", 0, 1, NONE, x::all);
        due("no plank", free(0).all(0), NONE);
    }

    static void p34Over() {
        sentence(34, "ALL OVER (bits)");
        ScaffoldReasons x = free(1);
        for (int i = 1; i < 8; i++) {
            x.plank(1, 1);
        }
        due("seven", x.over(0), 254);
        due("none", x.over(7), 0);
    }

    static void p34Others() {
        sentence(34, "NONE for others");
        ScaffoldReasons x = free(2);
        refuses("over", 0, 1, NONE, x::over);
        due("no plank", free(0).over(0), NONE);
    }

    static void p35High() {
        sentence(35, "HIGH");
        ScaffoldReasons x = new ScaffoldReasons();
        for (int i = 0; i < 8; i++) {
            x.plank(1, (1 << i) - 1);
        }
        due("none", x.high(0), 0);
        due("seven", x.high(7), 7);
    }

    static void p35Others() {
        sentence(35, "NONE for others");
        ScaffoldReasons x = free(2);
        refuses("high", 0, 1, NONE, x::high);
        due("no plank", free(0).high(0), NONE);
    }

    static void p36Least() {
        sentence(36, "LEAST to put up (bits), it too");
        ScaffoldReasons x = free(7);
        x.plank(1, 127);
        due("it alone", x.least(0), 1);
        due("all eight", x.least(7), 255);
        up(x, 0, 1, 2, 3, 4, 5, 6);
        due("it alone", x.least(7), 128);
        up(x, 7);
        due("it too, though it is up", x.least(7), 128);
    }

    static void p36Others() {
        sentence(36, "NONE for others");
        ScaffoldReasons x = free(2);
        refuses("least", 0, 1, NONE, x::least);
        due("no plank", free(0).least(0), NONE);
    }

    static void p37Stand() {
        sentence(37, "STAND: the upper (low false), the lower one (low true)");
        ScaffoldReasons x = ruled(up(free(8), 0, 1, 2, 3, 4, 5, 6, 7), "falls 9;");
        due("1 of 10", x.stand(128, false), 1);
        due("1 of 10", x.stand(128, true), 10);
        due("eight times", x.stand(255, false), 1);
        due("eight times", x.stand(255, true), 100000000);
        due("of none", x.stand(0, false), 1);
        due("of none", x.stand(0, true), 1);
        due("of no planks", free(0).stand(0, true), 1);
    }

    static void p37Others() {
        sentence(37, "NONE for others");
        ScaffoldReasons x = up(free(2), 0, 1);
        others(0, 3, set -> {
            due("stand " + set, x.stand(set, false), NONE);
            due("stand " + set, x.stand(set, true), NONE);
        });
        due("of no planks", free(0).stand(1, false), NONE);
    }

    static void p38HowMany() {
        sentence(38, "A VOTE: how many there are (order NONE: none any more)");
        ScaffoldReasons x = voted();
        due("none of none", x.vote(NONE), 0);
        due("one", x.vote(123), 1);
        due("the same again", x.vote(123), 2);
        due("none any more", x.vote(NONE), 0);
        due("none", x.beats(0, 1), 0);
        due("one", x.vote(3210), 1);
        due("the first are forgotten", x.beats(0, 1), -1);
    }

    static void p38Others() {
        sentence(38, "-2 for others, or if there are 7");
        ScaffoldReasons x = voted(123);
        for (int order : new int[] {-2, 0, 12, 122, 124, 132 + 1, 1233, 1234, 3211, 4321, 4012, 9012, 10123, -123, 3120 + 65536, MIN, MAX}) {
            due("vote " + order, x.vote(order), -2);
        }
        due("votes", x.about(4), 1);
        for (int i = 2; i <= 7; i++) {
            due("vote", x.vote(123), i);
        }
        due("an eighth", x.vote(3210), -2);
        due("votes", x.about(4), 7);
        due("it does not count", x.beats(0, 1), 7);
        due("none any more", x.vote(NONE), 0);
        due("then again", x.vote(123), 1);
    }

    static void p39Beats() {
        sentence(39, "how many more prefer the one");
        ScaffoldReasons x = voted(123, 123, 123, 123, 123, 123, 123);
        due("the most", x.beats(0, 3), 7);
        due("the least", x.beats(3, 0), -7);
        due("no vote", voted().beats(2, 3), 0);
    }

    static void p39Others() {
        sentence(39, "-100 for others (unlike options 0 .. 3)");
        ScaffoldReasons x = voted(123);
        refuses("beats", 0, 3, -100, o -> x.beats(o, 0));
        refuses("beats", 0, 3, -100, o -> x.beats(0, o));
        for (int i = 0; i < 4; i++) {
            due("like options", x.beats(i, i), -100);
        }
        due("others", x.beats(4, 4), -100);
        due("others", x.beats(-1, -1), -100);
    }

    static void p40Agenda() {
        sentence(40, "AN AGENDA: which option is left");
        due("the lowest", voted(123).agenda(123), 0);
        due("the highest", voted(123).agenda(3210), 0);
        due("no vote", voted().agenda(3210), 3);
    }

    static void p40Others() {
        sentence(40, "NONE for others");
        ScaffoldReasons x = voted(123);
        for (int order : new int[] {-1, 0, 12, 122, 124, 1233, 1234, 3211, 4321, 4012, 10123, -123, MIN, MAX}) {
            due("agenda " + order, x.agenda(order), NONE);
        }
    }

    static void p41Lead() {
        sentence(41, "LEADING: the lowest agenda");
        due("the lowest", voted().lead(0), 123);
        due("of 3", voted().lead(3), 3012);
        due("the highest", voted(213, 321, 1032, 2103).lead(1), 3210);
    }

    static void p41Others() {
        sentence(41, "NONE: none, and for others");
        ScaffoldReasons x = voted(3210);
        due("none", x.lead(0), NONE);
        due("none", x.lead(2), NONE);
        refuses("lead", 0, 3, NONE, x::lead);
    }

    static void p42Winner() {
        sentence(42, "A WINNER: 0 by pairs, 1 by points, 2 by first ones");
        // 0 is never the first, but is preferred to each other one; 1 and 3 are the first three times each.
        ScaffoldReasons x = voted(1023, 1023, 1032, 3021, 3021, 3012, 2013);
        due("pairs: 0 to 1 and 3 by 4 : 3, to 2 by 6 : 1", x.winner(0), 0);
        due("points: 14, 11, 7, 10", x.winner(1), 0);
        due("first ones: like ones", x.winner(2), NONE);
        x.vote(NONE);
        for (int order : new int[] {1023, 1023, 1032, 3021, 3021, 2013}) {
            x.vote(order);
        }
        due("first ones", x.winner(2), 1);
    }

    static void p42Others() {
        sentence(42, "NONE: none, and for others");
        ScaffoldReasons x = voted(123);
        refuses("winner", 0, 2, NONE, x::winner);
        for (int how = 0; how < 3; how++) {
            due("none", voted().winner(how), NONE);
        }
    }

    static void p43Score() {
        sentence(43, "SCORE");
        ScaffoldReasons x = voted(3210);
        due("the most", x.score(3), 3);
        due("the least", x.score(0), -3);
        due("no vote", voted().score(0), 0);
    }

    static void p43Others() {
        sentence(43, "-100 for others");
        ScaffoldReasons x = voted(123);
        refuses("score", 0, 3, -100, x::score);
    }

    static void p44Top() {
        sentence(44, "TOP (bits)");
        due("all four", voted().top(), 15);
        due("0", voted(123).top(), 1);
        due("3", voted(3210).top(), 8);
    }

    static void p45HowMany() {
        sentence(45, "SAID: how many there are (plank NONE: none any more)");
        ScaffoldReasons x = free(1);
        due("none of none", x.said(NONE, 0), 0);
        due("one", x.said(0, 0), 1);
        due("the same again", x.said(0, 0), 2);
        due("none any more", x.said(NONE, 10), 0);
        due("one", x.said(0, 10), 1);
        Texts.tell(x, "falls 10;");
        due("the first are forgotten", x.whose(), 1);
        due("without planks", free(0).said(NONE, 0), 0);
    }

    static void p45Others() {
        sentence(45, "-2 for others (0 .. 10), or if there are 8");
        ScaffoldReasons x = free(2);
        refuses("plank", NONE, 1, -2, p -> x.said(p, 0));
        refuses("falls", 0, 10, -2, f -> x.said(0, f));
        due("none", x.about(5), 0);
        for (int i = 1; i <= 8; i++) {
            due("said", x.said(i % 2, i + 2), i);
        }
        due("a ninth", x.said(0, 0), -2);
        due("said", x.about(5), 8);
        due("none any more", x.said(NONE, 0), 0);
        due("then again", x.said(1, 10), 1);
        due("no plank", free(0).said(0, 0), -2);
    }

    static void p46Whose() {
        sentence(46, "WHOSE LAW (bits)");
        ScaffoldReasons x = free(1);
        due("no text", x.whose(), 0);
        for (int i = 0; i < 4; i++) {
            Texts.tell(x, "falls " + i + ";");
        }
        due("nothing said: all four", x.whose(), 15);
        x.said(0, 3);
        due("the last", x.whose(), 8);
        x.said(0, 0);
        due("none", x.whose(), 0);
    }

    static void p47Gaps() {
        sentence(47, "GAPS (bits)");
        due("none", free(0).gaps(), 0);
        due("eight", free(8).gaps(), 255);
        due("none", up(free(2), 0, 1).gaps(), 0);
    }

    static void p48Unopposed() {
        sentence(48, "UNOPPOSED (bits)");
        due("none", free(0).unopposed(), 0);
        due("eight", free(8).unopposed(), 255);
        due("none", objecting(free(1), 0).unopposed(), 0);
    }

    static void p49AtOdds() {
        sentence(49, "AT ODDS (bits)");
        due("none", free(0).atOdds(), 0);
        due("eight", objecting(free(8), 0, 11, 22, 33, 44, 55, 66, 77).atOdds(), 255);
    }

    static void p50Loaded() {
        sentence(50, "MOST LOADED");
        ScaffoldReasons x = new ScaffoldReasons();
        for (int i = 0; i < 7; i++) {
            x.plank(1, 0);
        }
        x.plank(1, 64);
        up(x, 0, 6, 7);
        due("the last that can be", x.loaded(), 6);
    }

    static void p50None() {
        sentence(50, "NONE: none");
        due("no plank", free(0).loaded(), NONE);
        due("none is up", house().loaded(), NONE);
        due("nothing on one that is up", up(house(), 0, 2).loaded(), NONE);
        ScaffoldReasons x = up(house(), 0, 1);
        due("one", x.loaded(), 0);
        x.take(1);
        due("none any more", x.loaded(), NONE);
    }

    static void p51Ledger() {
        sentence(51, "BY THE BOOK");
        ScaffoldReasons x = free(2);
        due("none", x.ledger(0), 0);
        for (int i = 0; i < 31; i++) {
            x.put(0);
            x.take(0);
        }
        due("of the latest 30", x.ledger(0), 15);
        due("of the latest 30", x.ledger(1), 15);
        due("none fell", x.ledger(2), 0);
        due("none was conceded", x.ledger(3), 0);
    }

    static void p51Others() {
        sentence(51, "-2 for others (0 .. 3)");
        ScaffoldReasons x = lived();
        refuses("ledger", 0, 3, -2, x::ledger);
    }

    static void p52Image() {
        sentence(52, "THE IMAGE is as all is now: HOUR");
        due("at first", free(0).image(), 0);
        ScaffoldReasons x = at(9999);
        due("at last", x.image(), 9999);
        due("it takes the place of the first one", x.back(), 9999);
        due("HOUR", x.is(0), 9999);
        ScaffoldReasons y = lived();
        List<Integer> before = seen(y);
        y.image();
        same("nothing else is done", seen(y), before);
    }

    static void p53Back() {
        sentence(53, "BACK to THE IMAGE (it stays): HOUR");
        ScaffoldReasons x = free(0);
        due("without one: the first", x.back(), 0);
        x.hour(2);
        x.image();
        for (int i = 0; i < 3; i++) {
            x.hour(60);
            due("back", x.back(), 2);
            due("HOUR", x.is(0), 2);
            due("the same draws", x.is(1), 26239);
        }
        due("it is no step", x.about(3), 2);
        due("undo goes behind the image", x.undo(), 1);
        due("back", x.back(), 2);
        due("the steps are back too", x.about(3), 2);
    }

    static void p54About() {
        sentence(54, "0 PLANKS, 1 TEXTS, 2 THE TEXT (NONE), 3 STEPS that can be taken back, 4 VOTES, 5 SAID, 6 bytes of the tape");
        ScaffoldReasons x = free(0);
        int[] none = {0, 0, NONE, 0, 0, 0, 0};
        for (int i = 0; i < 7; i++) {
            due("at first", x.about(i), none[i]);
        }
        for (int i = 0; i < 15; i++) {
            x.plank(5, 0);
            x.text();
            x.hour(3);
            x.vote(123);
            x.said(0, 0);
        }
        x.by(3);
        for (int i = 0; i < 16; i++) {
            x.feed(0, 0, 0, 0, 0);
        }
        int[] most = {8, 4, 3, 30, 7, 8, 300};
        for (int i = 0; i < 7; i++) {
            due("at most", x.about(i), most[i]);
        }
    }

    static void p54Others() {
        sentence(54, "-2 for others");
        ScaffoldReasons x = lived();
        refuses("about", 0, 6, -2, x::about);
    }
}
