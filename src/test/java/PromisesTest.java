/** Each promise of the document by hand: ordinary inputs, the edges that it names, wrong inputs. */
public final class PromisesTest {
    private static final int NONE = ScaffoldReasons.NONE;
    private static final int MIN = Integer.MIN_VALUE;
    private static final int MAX = Integer.MAX_VALUE;
    private static int wrong;
    private static int asked;
    private static String promise = "";

    private static void due(String what, long got, long want) {
        asked++;
        if (got != want) {
            wrong++;
            System.out.println("promise " + promise + ": " + what + " answered " + got + ", due is " + want);
        }
    }

    private static void due(String what, boolean got, boolean want) {
        due(what, got ? 1 : 0, want ? 1 : 0);
    }

    /** So many planks of weight 5 that rest on none. */
    private static ScaffoldReasons free(int planks) {
        ScaffoldReasons x = new ScaffoldReasons();
        for (int i = 0; i < planks; i++) {
            x.plank(5, 0);
        }
        return x;
    }

    /** Plank 1 on 0, 2 on none, 3 on 1 and 2; weights 5, 2, 3, 1. */
    private static ScaffoldReasons house() {
        ScaffoldReasons x = new ScaffoldReasons();
        x.plank(5, 0);
        x.plank(2, 1);
        x.plank(3, 0);
        x.plank(1, 6);
        return x;
    }

    private static void objections(ScaffoldReasons x, int... tens) {
        for (int t : tens) {
            due("object " + t, x.object(t / 10, t % 10, true), true);
        }
    }

    private static void votes(ScaffoldReasons x, int... orders) {
        for (int o : orders) {
            x.vote(o);
        }
    }

    private static void allUp(ScaffoldReasons x, int planks) {
        for (int i = 0; i < planks; i++) {
            due("put " + i, x.put(i), true);
        }
    }

    /** What puts says of plank 0 (weight 4) beside plank 1 (weight 7). */
    private static void puts(String sum, int want) {
        ScaffoldReasons x = new ScaffoldReasons();
        x.plank(4, 0);
        x.plank(7, 1);
        due("text puts " + sum, Texts.tell(x, "puts " + sum + ";"), 0);
        x.by(0);
        due("puts " + sum, x.of(0, 5), want);
    }

    private static void faulty(String text, int fault, int place) {
        ScaffoldReasons x = new ScaffoldReasons();
        int number = Texts.tell(x, text);
        due("text " + text, number, fault == 0 ? 0 : NONE);
        due("fault of " + text, x.fault(0), fault);
        due("place of " + text, x.fault(1), place);
    }

    private static void fine(String text) {
        faulty(text, 0, NONE);
    }

    public static void main(String[] args) {
        newObject();
        planks();
        tape();
        textsAndFaults();
        leftovers();
        tokens();
        sums();
        asks();
        names();
        limits();
        ruling();
        puttingUp();
        takingDown();
        conceding();
        objecting();
        hours();
        lastHours();
        playing();
        years();
        undoing();
        ofAndIs();
        books();
        foretelling();
        holding();
        grounding();
        stableSets();
        preferredAndNaive();
        rings();
        repairs();
        heaviest();
        explaining();
        orders();
        underAndOver();
        standing();
        voting();
        winning();
        saying();
        bitsOfPlanks();
        images();
        about();
        System.out.println(wrong == 0 ? asked + " answers are as due" : wrong + " of " + asked + " answers are not as due");
        if (wrong != 0) {
            System.exit(1);
        }
    }

    private static void newObject() {
        promise = "1";
        ScaffoldReasons x = new ScaffoldReasons();
        int[] is = {0, 337, 0, 0, 0};
        for (int i = 0; i < is.length; i++) {
            due("is " + i, x.is(i), is[i]);
        }
        int[] about = {0, 0, NONE, 0, 0, 0, 0};
        for (int i = 0; i < about.length; i++) {
            due("about " + i, x.about(i), about[i]);
        }
        due("book", x.book(NONE, 0), 0);
        due("fault", x.fault(0), NONE);
        due("fault", x.fault(1), NONE);
        due("undo", x.undo(), NONE);
        due("NONE", NONE, -1);
        x.plank(3, 0);
        x.put(0);
        x.hour(2);
        due("back", x.back(), 0);
        due("about 0", x.about(0), 0);
        due("about 3", x.about(3), 0);
        due("is 1", x.is(1), 337);
    }

    private static void planks() {
        promise = "2";
        ScaffoldReasons x = new ScaffoldReasons();
        int[][] others = {{0, 0}, {10, 0}, {-1, 0}, {1, 1}, {1, -1}, {1, MIN}, {MAX, 0}, {MIN, 0}};
        for (int[] o : others) {
            due("plank " + o[0] + " " + o[1], x.plank(o[0], o[1]), NONE);
        }
        due("plank", x.plank(9, 0), 0);
        due("plank", x.plank(1, 1), 1);
        due("plank on itself", x.plank(1, 4), NONE);
        due("plank", x.plank(4, 3), 2);
        due("weight", x.of(0, 0), 9);
        due("weight", x.of(2, 0), 4);
        due("rests", x.of(2, 1), 3);
        for (int i = 3; i < 8; i++) {
            due("plank", x.plank(1, (1 << i) - 1), i);
        }
        due("the ninth", x.plank(1, 0), NONE);
        due("the ninth", x.plank(1, 255), NONE);
        due("planks", x.about(0), 8);
    }

    private static void tape() {
        promise = "3, 4";
        ScaffoldReasons x = new ScaffoldReasons();
        for (int i = 1; i <= 15; i++) {
            due("feed", x.feed(MIN, MAX, -1, 0, 1), 20 * i);
        }
        due("feed beyond 300", x.feed(0, 0, 0, 0, 0), NONE);
        due("tape", x.about(6), 300);
        due("end", x.end(281), 281);
        due("feed beyond 300", x.feed(0, 0, 0, 0, 0), NONE);
        due("tape", x.about(6), 281);
        due("end", x.end(280), 280);
        due("feed to 300", x.feed(0, 0, 0, 0, 0), 300);
        due("end", x.end(301), NONE);
        due("end", x.end(-1), NONE);
        due("end", x.end(MIN), NONE);
        due("end", x.end(MAX), NONE);
        due("tape", x.about(6), 300);
        due("end", x.end(300), 300);
        due("end", x.end(0), 0);
        due("end", x.end(1), NONE);
        due("end", x.end(0), 0);
        // "put 0;put 7;put 1;  x": the highest byte comes first, a ahead of b and so on; x is no clause.
        due("feed", x.feed(0x70757420, 0x303b7075, 0x7420373b, 0x70757420, 0x313b2078), 20);
        due("text", x.text(), NONE);
        due("place", x.fault(1), 19);
        due("feed", x.feed(0x70757420, 0x303b7075, 0x7420373b, 0x70757420, 0x313b2078), 20);
        due("end", x.end(18), 18);
        due("text", x.text(), 0);
    }

    private static void textsAndFaults() {
        promise = "5, 6";
        ScaffoldReasons x = new ScaffoldReasons();
        due("the empty text", x.text(), 0);
        due("fault", x.fault(0), 0);
        due("fault", x.fault(1), NONE);
        due("fault", x.fault(2), NONE);
        due("fault", x.fault(-1), NONE);
        Texts.feed(x, "puts ;");
        due("text", x.text(), NONE);
        due("the tape of a faulty text", x.about(6), 0);
        due("fault", x.fault(0), 1);
        due("fault", x.fault(1), 5);
        due("fault", x.fault(2), NONE);
        due("fault", x.fault(-1), NONE);
        due("fault", x.fault(MAX), NONE);
        due("fault", x.fault(MIN), NONE);
        due("texts", x.about(1), 1);
        for (int i = 1; i < 4; i++) {
            Texts.feed(x, "put 0;");
            due("text", x.text(), i);
            due("the tape of a text", x.about(6), 0);
        }
        due("fault", x.fault(0), 0);
        due("fault", x.fault(1), NONE);
        Texts.feed(x, "puts ;");
        due("the fifth text", x.text(), NONE);
        due("its tape stays", x.about(6), 6);
        due("it was not read", x.fault(0), 0);
        due("it was not read", x.fault(1), NONE);
        due("texts", x.about(1), 4);
        x.back();
        due("the tape stays", x.about(6), 6);
        due("text", x.text(), NONE);
        due("fault", x.fault(0), 1);
    }

    /** What a faulty text or the end of a tape leaves behind must not come into the next text. */
    private static void leftovers() {
        promise = "4, 5 (leftovers)";
        ScaffoldReasons x = free(1);
        String longLaw = "puts 1" + "+1".repeat(120);
        for (int i = 0; i < 5; i++) {
            due("faulty", Texts.tell(x, longLaw), NONE);
            due("faulty", Texts.tell(x, "puts 9;falls 9;put 0;put 0;x"), NONE);
        }
        due("text", Texts.tell(x, longLaw + ";"), 0);
        x.by(0);
        due("its law", x.of(0, 5), 99);
        due("without falls", x.of(0, 6), 0);
        due("its clauses", x.played(0), NONE);
        due("its clauses", x.is(3), 0);
        Texts.feed(x, "put 77;");
        x.end(5);
        due("text", x.text(), NONE);
        due("at the end", x.fault(0), 1);
        due("at the end", x.fault(1), 5);
        Texts.feed(x, "put 0;;");
        x.end(6);
        due("text", x.text(), 1);
        x.image();
        x.plank(7, 1);
        x.object(0, 0, true);
        x.put(0);
        x.put(1);
        x.back();
        x.end(0);
        due("text", Texts.tell(x, "puts heavy 1;falls load+up;"), 2);
        x.by(2);
        due("a plank that isn't told any more", x.of(0, 5), 0);
        due("a plank that isn't told any more", x.of(0, 6), 0);
        due("over", x.over(0), 0);
    }

    private static void tokens() {
        promise = "5, 6 (tokens)";
        fine("");
        fine(" \n \n");
        fine("puts1+2;plank3on9;put0;");
        fine("puts\n1\n+\n2\n;\n");
        fine("put 007;hour 0060;puts 0000000000000009999;");
        faulty("put\t0;", 1, 3);
        faulty("put 0;\r", 1, 6);
        faulty("put 0;\u0000", 1, 6);
        faulty("\u00e9", 1, 0);
        faulty("PUT 0;", 1, 0);
        faulty("putS 0;", 1, 0);
        faulty("pu t 0;", 1, 0);
        faulty("put0x;", 1, 4);
        String[] letters = {"a", "z", "A", "Z"};
        for (String letter : letters) {
            faulty("put" + letter + " 0;", 1, 0);
        }
        String[] noLetters = {"`", "{", "@", "["};
        for (String sign : noLetters) {
            faulty("put" + sign + " 0;", 1, 3);
        }
        faulty("put 0:", 1, 5);
        faulty("put 0/", 1, 5);
        faulty("puts if no 1=1 then 1 else 0 end;", 1, 8);
        faulty("puts if nott 1=1 then 1 else 0 end;", 1, 8);
        faulty("puts if nob 1=1 then 1 else 0 end;", 1, 8);
        faulty("puts 1<2;", 1, 6);
        faulty("puts if 1<=2 then 1 else 0 end", 1, 30);
        fine("puts if 1<=2 then 1 else 0 end;");
        fine("puts if 1>=-2 then 1 else 0 end;");
        faulty("puts if 1< =2 then 1 else 0 end;", 1, 11);
        faulty("puts if 1=<2 then 1 else 0 end;", 1, 10);
        faulty("puts if 1==2 then 1 else 0 end;", 1, 10);
        faulty("puts if 1<>2 then 1 else 0 end;", 1, 10);
        faulty("puts 1,2;", 1, 6);
        faulty("put 0", 1, 5);
        faulty("put 0  \n", 1, 8);
        faulty("put", 1, 3);
        faulty(";", 1, 0);
        faulty("put 0;;", 1, 6);
        faulty("0;", 1, 0);
        faulty("wind 1;", 1, 0);
        faulty("hour;", 1, 4);
        faulty("put -1;", 1, 4);
        faulty("put (1);", 1, 4);
        faulty("put wind;", 1, 4);
        faulty("plank 1;", 1, 7);
        faulty("plank 1 to 2;", 1, 8);
        faulty("object 1 on 2;", 1, 9);
        faulty("object 1;", 1, 8);
        faulty("drop 1 2;", 1, 7);
        faulty("take 0 1;", 1, 7);
    }

    private static void sums() {
        promise = "5, 16 (sums)";
        puts("7", 7);
        puts("2-3-4", -5);
        puts("2+3*4", 14);
        puts("(2+3)*4", 20);
        puts("2*3/4", 1);
        puts("12/4/3", 1);
        puts("-7/2", -3);
        puts("7/-2", -3);
        puts("5/0", 0);
        puts("5+5/0", 5);
        puts("- -5", 5);
        puts("-2*3", -6);
        puts("3--2", 5);
        puts("bits 6 of 3", 2);
        puts("bits -6 of 3", 2);
        puts("bits 6 of -3", 2);
        puts("bits 12 of 10*2", 16);
        puts("bits bits 7 of 6 of 3", 2);
        puts("bits 5 of bits 7 of 6", 4);
        puts("heavy 0", 4);
        puts("heavy 1", 7);
        puts("heavy 2", 0);
        puts("heavy 8", 0);
        puts("heavy -1", 0);
        puts("heavy 0+1", 5);
        puts("heavy(0+1)", 7);
        puts("heavy 9999", 0);
        puts("99", 99);
        puts("100", 99);
        puts("-99", -99);
        puts("-100", -99);
        puts("9999*9999/9999-90", 10);
        puts("-9999*9999/9999+90", -10);
        puts("9999*9999+9999-9999*9999", 0);
        puts("-9999*9999-9999+9999*9999", 0);
        puts("(9999*9999+1)/9999", 99);
        puts("1000*1000-999*1001", 1);
        puts("1000*1001-1000*1000", 0);
        faulty("puts ;", 1, 5);
        faulty("puts 1+;", 1, 7);
        faulty("puts *1;", 1, 5);
        faulty("puts +1;", 1, 5);
        faulty("puts 1 2;", 1, 7);
        faulty("puts 1 wind;", 1, 7);
        faulty("puts (1;", 1, 7);
        faulty("puts ();", 1, 6);
        faulty("puts 1);", 1, 6);
        faulty("puts bits 1;", 1, 11);
        faulty("puts bits 1 2;", 1, 12);
        faulty("puts bits 1 of;", 1, 14);
        faulty("puts bits 1+2 of 3;", 1, 11);
        faulty("puts heavy;", 1, 10);
        faulty("puts of;", 1, 5);
        faulty("puts foo;", 1, 5);
        faulty("puts not 1;", 1, 5);
        faulty("puts end;", 1, 5);
        faulty("puts puts;", 1, 5);
    }

    private static void asks() {
        promise = "5, 16 (asks)";
        String[] yes = {"1<2", "1<=1", "2>1", "2>=2", "2=2", "1#2", "not 1=2", "not not 1=1", "1=2 or 1=1", "1=1 or 1=2",
            "1=1 and 2=2", "1=1 or 1=1 and 1=2", "1=2 and 1=1 or 1=1", "not 1=2 and 1=1", "not 1=1 or 1=1",
            "1+1=2", "(1)<(2)", "if 1=1 then 1 else 0 end=1"};
        String[] no = {"1<1", "2<1", "2<=1", "1>1", "1>2", "1>=2", "1=2", "1#1", "not 1=1", "not not 1=2", "1=2 or 2=1",
            "1=1 and 1=2", "1=2 and 1=1", "not 1=1 and 1=2", "not 1=2 and 1=2", "1=2 or 1=1 and 1=2"};
        for (String ask : yes) {
            puts("if " + ask + " then 3 else 4 end", 3);
        }
        for (String ask : no) {
            puts("if " + ask + " then 3 else 4 end", 4);
        }
        puts("if 1=1 then 2+3 else 4+5 end*2", 10);
        puts("if 1=2 then 2+3 else 4+5 end*2", 18);
        puts("if 1=1 then if 1=2 then 1 else 2 end else 3 end", 2);
        puts("if 1=2 then 1 else if 1=1 then 2 else 3 end end", 2);
        puts("1+if if 1=1 then 1 else 2 end=1 then 5 else 6 end-2", 4);
        faulty("puts if 1 then 2 else 3 end;", 1, 10);
        faulty("puts if (1=1) then 2 else 3 end;", 1, 10);
        faulty("puts if 1=1=1 then 2 else 3 end;", 1, 11);
        faulty("puts if 1=1 else 3 end;", 1, 12);
        faulty("puts if 1=1 then 2 end;", 1, 19);
        faulty("puts if 1=1 then 2 else 3;", 1, 25);
        faulty("puts if not then 2 else 3 end;", 1, 12);
        faulty("puts if 1=1 or then 2 else 3 end;", 1, 15);
        faulty("puts if 1=1 and or 1=1 then 2 else 3 end;", 1, 16);
        faulty("puts if 1=1 and not 1 then 2 else 3 end;", 1, 22);
        faulty("puts if 1=1 then 1=1 else 3 end;", 1, 18);
    }

    private static void names() {
        promise = "5, 16 (names)";
        ScaffoldReasons x = house();
        due("text", Texts.tell(x, "puts hour*10+wind;falls number;"), 0);
        due("text", Texts.tell(x, "puts weight*10+number;falls weight;"), 1);
        due("text", Texts.tell(x, "puts up*10+against;falls against;"), 2);
        due("text", Texts.tell(x, "puts rests+1;falls up+load*2;"), 3);
        x.hour(1);
        objections(x, 0, 10, 20, 32, 22);
        allUp(x, 3);
        x.by(0);
        due("hour, wind", x.of(0, 5), 17);
        due("number", x.of(3, 6), 3);
        x.by(1);
        due("weight, number", x.of(3, 5), 13);
        due("weight", x.of(0, 6), 5);
        x.by(2);
        due("up, against", x.of(0, 5), 33);
        due("up, against", x.of(2, 5), 31);
        due("against", x.of(0, 6), 3);
        due("against", x.of(1, 6), 0);
        x.by(3);
        due("rests", x.of(3, 5), 3);
        due("rests", x.of(0, 5), 1);
        due("up, load", x.of(0, 6), 5);
        due("up, load", x.of(1, 6), 3);
        due("up, load", x.of(2, 6), 3);
        x.by(NONE);
        due("put", x.put(3), true);
        x.by(3);
        due("up, load", x.of(2, 6), 6);
        due("up, load", x.of(3, 6), 4);
        x.object(2, 0, false);
        x.object(2, 2, false);
        x.object(3, 2, false);
        due("concede", x.concede(2), true);
        due("those that are up alone", x.of(3, 6), 3);
        x.by(2);
        due("those that are up alone", x.of(0, 6), 2);
        faulty("puts load;", 5, 5);
        faulty("falls rests;", 5, 6);
        fine("puts rests;falls load;");
        faulty("falls load;puts rests+load;", 5, 22);
        faulty("puts 1 load;", 1, 7);
    }

    private static void limits() {
        promise = "5, 6 (limits)";
        faulty("puts 10000;", 2, 5);
        fine("puts 9999;");
        faulty("puts 1 10000;", 1, 7);
        faulty("puts 99999999999999999999;", 2, 5);
        faulty("puts 4294967297;", 2, 5);
        faulty("plank 0 on 9;", 2, 6);
        faulty("plank 10 on 9;", 2, 6);
        fine("plank 1 on 0;plank 9 on 7;plank 1 on 9;");
        faulty("plank 1 on 8;", 2, 11);
        faulty("plank 1 on 10;", 2, 11);
        String[] ones = {"put ", "take ", "concede "};
        for (String one : ones) {
            fine(one + "0;" + one + "7;");
            faulty(one + "8;", 2, one.length());
            faulty(one + "9;", 2, one.length());
            faulty(one + "10007;", 2, one.length());
        }
        String[] pairs = {"object ", "drop "};
        for (String pair : pairs) {
            fine(pair + "0 to 7;" + pair + "7 to 0;");
            faulty(pair + "8 to 0;", 2, pair.length());
            faulty(pair + "0 to 8;", 2, pair.length() + 5);
            faulty(pair + "0 to 9;", 2, pair.length() + 5);
        }
        fine("hour 1;hour 60;");
        faulty("hour 0;", 2, 5);
        faulty("hour 61;", 2, 5);
        fine("puts ((((((((1))))))))+((((((((1))))))));");
        faulty("puts (((((((((1)))))))));", 3, 13);
        fine("puts --------1;");
        faulty("puts ---------1;", 3, 13);
        fine("puts ---------".substring(0, 13) + "1-1-1-1-1-1-1-1-1-1;");
        faulty("puts heavy heavy heavy heavy heavy heavy heavy heavy heavy 1;", 3, 53);
        fine("puts if not not not not not not not 1=1 then 1 else 0 end;");
        faulty("puts if not not not not not not not not 1=1 then 1 else 0 end;", 3, 36);
        faulty("puts if not not not not not not not (1)=1 then 1 else 0 end;", 3, 36);
        fine("puts if not not not not not not not 1=1 and (1)=1 then 1 else 0 end;");
        faulty("puts (((((((bits 1 of (1))))))));", 3, 22);
        fine("puts ((((((bits (1) of (1)))))));");
        faulty("puts (((((((bits (1) of 1))))))));", 3, 17);
        fine("puts (((((((bits 1 of 1+(1))))))));");
        faulty("puts ((((((((if 1=1 then 1 else 1 end))))))));", 3, 13);
        fine("puts (((((((if 1=1 then 1 else 1 end+(1))))))));");
        faulty("puts (((((((if 1=1 then 1 else (1) end)))))));", 3, 31);
        faulty("puts ((((((((bits 1 of 1))))))));", 3, 13);
        faulty("puts (((((((( )", 1, 14);
        faulty("puts 1;puts 2;", 4, 7);
        faulty("falls 1;puts 1;falls 2;", 4, 15);
        faulty("puts 1;falls 2;puts", 4, 15);
        String many = "take 0;".repeat(24);
        fine(many);
        faulty(many + "take 0;", 6, 168);
        faulty(many + "puts 1;", 6, 168);
        faulty(many + "wind", 1, 168);
        faulty(many + " \n?", 1, 170);
        faulty("puts 1;" + many.substring(7) + "puts 1;", 4, 168);
        faulty("puts 1;" + many.substring(7) + "falls 1;", 6, 168);
        String deep = "puts " + "if 1=1 then ".repeat(8) + "1" + " else 2 end".repeat(8) + ";";
        fine(deep);
        faulty("puts " + "if 1=1 then ".repeat(9) + "1" + " else 2 end".repeat(9) + ";", 3, 101);
        fine("puts 1" + "+1".repeat(146) + ";");
        puts("1" + "+1".repeat(50), 51);
        faulty("puts 1" + "+1".repeat(147), 1, 300);
    }

    private static void ruling() {
        promise = "7";
        ScaffoldReasons x = free(1);
        due("by", x.by(0), false);
        due("by", x.by(NONE), true);
        Texts.tell(x, "puts 0;falls 11;");
        Texts.tell(x, "hour 1;");
        due("none rules at first", x.about(2), NONE);
        due("puts without", x.of(0, 5), 1);
        due("falls without", x.of(0, 6), 0);
        due("by", x.by(0), true);
        due("about", x.about(2), 0);
        due("by", x.by(2), false);
        due("by", x.by(-2), false);
        due("by", x.by(MIN), false);
        due("by", x.by(MAX), false);
        due("about", x.about(2), 0);
        due("put", x.put(0), false);
        due("falls at most", x.of(0, 6), 10);
        due("by", x.by(1), true);
        due("puts without", x.of(0, 5), 1);
        due("by", x.by(0), true);
        due("by", x.by(NONE), true);
        due("about", x.about(2), NONE);
        Texts.tell(x, "falls -3;");
        x.by(2);
        due("falls at least", x.of(0, 6), 0);
        x.by(1);
        x.hour(2);
        due("wind less weight", x.of(0, 6), 3);
    }

    private static void puttingUp() {
        promise = "8";
        ScaffoldReasons x = house();
        due("put", x.put(4), false);
        due("put", x.put(-1), false);
        due("put", x.put(MIN), false);
        due("put", x.put(MAX), false);
        due("put", x.put(3), false);
        due("put", x.put(1), false);
        due("put", x.put(0), true);
        due("put", x.put(0), false);
        due("put", x.put(1), true);
        due("put on one of two", x.put(3), false);
        due("put", x.put(2), true);
        due("concede", x.concede(2), true);
        due("put", x.put(2), false);
        due("put on an up and a conceded one", x.put(3), true);
        due("steps", x.about(3), 5);
        due("up", x.is(3), 11);
        x = free(3);
        Texts.tell(x, "puts number-1;");
        x.by(0);
        due("puts -1", x.put(0), false);
        due("puts 0", x.put(1), false);
        due("puts 1", x.put(2), true);
        due("book", x.book(NONE, 0), 1);
    }

    private static void takingDown() {
        promise = "9";
        ScaffoldReasons x = house();
        due("take", x.take(0), false);
        allUp(x, 4);
        due("take", x.take(4), false);
        due("take", x.take(NONE), false);
        due("take", x.take(0), false);
        due("take", x.take(1), false);
        due("take", x.take(2), false);
        due("take", x.take(3), true);
        due("how", x.of(3, 2), 0);
        due("take", x.take(3), false);
        due("take", x.take(2), true);
        due("concede", x.concede(1), true);
        due("take a conceded one", x.take(1), false);
        due("take from under a conceded one", x.take(0), true);
        due("up", x.is(3), 0);
        due("book", x.ledger(1), 3);
        due("put", x.put(0), true);
    }

    private static void conceding() {
        promise = "10";
        ScaffoldReasons x = free(4);
        objections(x, 1, 12, 33);
        due("one that is down", x.concede(0), false);
        allUp(x, 4);
        due("one that is not grounded", x.concede(1), false);
        due("one at odds", x.concede(3), false);
        due("concede", x.concede(4), false);
        due("concede", x.concede(NONE), false);
        due("concede", x.concede(2), true);
        due("concede", x.concede(0), true);
        due("concede", x.concede(0), false);
        due("conceded", x.is(4), 5);
        due("up", x.is(3), 10);
        due("how", x.of(0, 2), 2);
        due("book", x.ledger(3), 2);
    }

    private static void objecting() {
        promise = "11";
        ScaffoldReasons x = free(2);
        due("drop none", x.object(0, 1, false), false);
        due("object", x.object(0, 1, true), true);
        due("object again", x.object(0, 1, true), false);
        due("object", x.object(1, 1, true), true);
        due("others", x.object(0, 2, true), false);
        due("others", x.object(2, 0, true), false);
        due("others", x.object(-1, 0, true), false);
        due("others", x.object(0, -1, false), false);
        due("others", x.object(MAX, MIN, false), false);
        due("objects to", x.of(0, 3), 2);
        due("objecting", x.of(1, 4), 3);
        due("drop", x.object(0, 1, false), true);
        due("objects to", x.of(0, 3), 0);
        due("steps", x.about(3), 3);
        due("book", x.book(NONE, 0), 0);
    }

    private static void hours() {
        promise = "12";
        ScaffoldReasons x = new ScaffoldReasons();
        int[] others = {0, -1, 61, MAX, MIN};
        for (int n : others) {
            due("hour " + n, x.hour(n), NONE);
        }
        // Draws from 337 on: 7, 8, 9, 2, 7, 5, 5, 9, 4, 3.
        x.plank(1, 0);
        x.put(0);
        due("wind 7, draw 8", x.hour(1), 0);
        due("wind", x.is(2), 7);
        due("X", x.is(1), 26239);
        due("HOUR", x.is(0), 1);
        due("wind 9, draw 2", x.hour(1), 1);
        due("wind", x.is(2), 9);
        due("X", x.is(1), 10587);
        due("how", x.of(0, 2), 0);
        due("book", x.book(NONE, 0), 2);
        int[] line = {1, 0, 2, 9};
        for (int i = 0; i < 4; i++) {
            due("line", x.book(1, i), line[i]);
        }
        due("wind 7, no draw", x.hour(1), 0);
        due("X", x.is(1), 20265);
        due("steps", x.about(3), 4);

        // Draws 7, 8 (3 falls is 10 - 1 = 9 for plank 0, with 1 and 3; 2 is conceded, 4 rests on 2).
        x = new ScaffoldReasons();
        x.plank(1, 0);
        x.plank(1, 1);
        x.plank(1, 1);
        x.plank(1, 2);
        x.plank(1, 4);
        allUp(x, 5);
        x.concede(2);
        Texts.tell(x, "falls if number=0 then 9 else 0 end;");
        x.by(0);
        due("three fall", x.hour(1), 3);
        due("up", x.is(3), 16);
        due("conceded", x.is(4), 4);
        due("draws for wind, 0 and 4", x.is(1), 22372);
        int[] fallen = {0, 1, 3};
        for (int i = 0; i < 3; i++) {
            due("by number", x.book(6 + i, 1), fallen[i]);
            due("at HOUR", x.book(6 + i, 0), 0);
            due("what", x.book(6 + i, 2), 2);
            due("by the new WIND", x.book(6 + i, 3), 7);
        }

        // falls is of all as it is then: when 0 has fallen (draw 8 < 10) up is 1 for plank 1 (draw 9).
        x = free(2);
        allUp(x, 2);
        Texts.tell(x, "falls if up=2 then 10 else 9 end;");
        x.by(0);
        due("draw 9 is not below 9", x.hour(1), 1);
        due("up", x.is(3), 2);
        due("wind 2, draw 7 is below 9", x.hour(1), 1);
        due("hours at once", x.hour(60), 0);
        due("HOUR", x.is(0), 62);
        due("steps", x.about(3), 30);
    }

    private static void lastHours() {
        promise = "12, 13, 14, 19 (the last HOURS)";
        ScaffoldReasons x = new ScaffoldReasons();
        for (int i = 0; i < 166; i++) {
            x.hour(60);
        }
        due("HOUR", x.is(0), 9960);
        x.image();
        due("just up to 9999", x.hour(39), 0);
        due("HOUR", x.is(0), 9999);
        due("back", x.back(), 9960);
        due("beyond", x.hour(40), NONE);
        due("X stays", x.hour(41), NONE);
        due("HOUR", x.is(0), 9960);
        due("hour", x.hour(38), 0);
        due("beyond", x.hour(2), NONE);
        due("HOUR", x.is(0), 9998);
        Texts.tell(x, "plank 1 on 9;hour 3;plank 1 on 9;");
        x.plank(9, 0);
        x.put(0);
        Texts.tell(x, "falls 10;");
        due("foretold by those that can pass", x.foretold(60), 1);
        x.image();
        due("play", x.played(0), 1);
        due("those that can pass do", x.is(0), 9999);
        due("the rest isn't played", x.about(0), 2);
        due("no more", x.hour(1), NONE);
        int xNow = x.is(1);
        x.by(1);
        due("foretold without any", x.foretold(1), 1);
        due("X", x.is(1), xNow);
        due("play", x.played(0), 1);
        due("back", x.back(), 9998);
        x.by(1);
        due("foretold by one", x.foretold(60), 0);
        due("years", x.years(0, 40), 9999);
        due("taken ahead of the hour", x.ledger(1) > 0, true);
        due("so that it doesn't fall", x.ledger(2), 0);
        due("years", x.years(0, 2), 9999);
        due("draws of the years alone", x.is(1), 26239);
        due("undo", x.undo(), 29);
        due("undo", x.undo(), 28);
        due("HOUR", x.is(0), 9998);
    }

    private static void playing() {
        promise = "13";
        ScaffoldReasons x = new ScaffoldReasons();
        due("play", x.played(0), -2);
        Texts.tell(x, "puts 0;plank 4 on 9;plank 2 on 0;falls 10;put 0;put 1;object 0 to 1;concede 0;hour 2;");
        Texts.tell(x, "take 1;drop 0 to 1;drop 0 to 1;plank 1 on 9;");
        Texts.tell(x, "");
        Texts.tell(x, "plank 9 on 7;put 0;");
        due("play", x.played(4), -2);
        due("play", x.played(-1), -2);
        due("play", x.played(MIN), -2);
        due("nothing", x.played(2), NONE);
        due("on none that is told", x.played(3), 0);
        due("its own laws don't rule", x.played(0), NONE);
        due("planks", x.about(0), 2);
        due("weight", x.of(0, 0), 4);
        due("on 9 is on none", x.of(0, 1), 0);
        due("rests", x.of(1, 1), 1);
        due("conceded", x.is(4), 1);
        due("up", x.is(3), 0);
        due("HOUR", x.is(0), 2);
        due("steps", x.about(3), 6);
        due("objects", x.of(0, 3), 2);
        due("a fallen one can't be taken", x.played(1), 0);
        x.put(1);
        due("the clause that can't be", x.played(1), 2);
        due("what was done stays", x.of(0, 3), 0);
        due("what follows isn't done", x.about(0), 2);
        x.by(0);
        due("a law that refuses", x.played(0), 4);
        due("planks", x.about(0), 4);
        x.played(0);
        x.played(0);
        due("planks", x.about(0), 8);
        due("the ninth plank", x.played(0), 1);
    }

    private static void years() {
        promise = "14";
        ScaffoldReasons x = new ScaffoldReasons();
        int[][] others = {{-1, 1}, {10000, 1}, {0, 0}, {0, 41}, {MIN, MIN}, {MAX, MAX}};
        for (int[] o : others) {
            due("years " + o[0] + " " + o[1], x.years(o[0], o[1]), NONE);
        }
        due("X", x.is(1), 337);
        due("steps", x.about(3), 0);
        due("no plank is taken", x.years(0, 1), 0);
        due("X", x.is(1), 15328);
        due("one step", x.about(3), 1);
        due("an hour", x.years(0, 2), 1);
        due("wind", x.is(2), 9);
        due("X", x.is(1), 22372);
        due("the greatest", x.years(9999, 40) >= 1, true);
        due("steps", x.about(3), 3);
        due("undo", x.undo(), 2);
        due("HOUR", x.is(0), 1);

        // By 341, 347 and 349 (what 5, 4 and 6) X is 17700, 21258 and 22444, of which WIND is drawn.
        int[][] seeds = {{2, 0}, {5, 8}, {6, 4}};
        for (int[] s : seeds) {
            x = new ScaffoldReasons();
            due("an hour", x.years(s[0], 1), 1);
            due("its wind", x.is(2), s[1]);
        }
        // By 10587 (s = 5125, what 3) of 5 planks 2 objects to 1512 mod 5 = 2.
        x = free(5);
        x.years(5125, 1);
        due("objects", x.of(2, 3), 4);
        due("at odds", x.atOdds(), 4);

        // 22372 = 337 + 2 * s has no s; 26239: s = 12951 is too much; 550: none; 17073: s = 8368, what 0.
        x = free(4);
        due("put up", x.years(8368, 1), 0);
        due("plank 17073 mod 4", x.is(3), 2);
        due("X", x.is(1), 12838);
        // 9179: s = 4421, what 2, plank 3; 14100 has none; 25125: s = 12394 is too much.
        x.put(3);
        due("conceded", x.years(4421, 1), 0);
        due("plank 9179 mod 4", x.is(4), 8);
        due("book", x.book(2, 2), 3);
        // 337: what 1, plank 1.
        due("taken", x.years(0, 1), 0);
        due("plank 337 mod 4", x.is(3), 0);
        due("book", x.ledger(1), 1);
        // 10587: s = 5125, what 3, plank 3, other 10587 / 7 mod 4 = 1512 mod 4 = 0.
        due("objects", x.years(5125, 1), 0);
        due("objects", x.of(3, 3), 1);
        due("objects", x.years(5125, 1), 0);
        due("drops", x.of(3, 3), 0);
        due("steps", x.about(3), 6);
        due("undo", x.undo(), 5);
        due("objects", x.of(3, 3), 1);
        due("X", x.is(1), 20265);
    }

    private static void undoing() {
        promise = "15";
        ScaffoldReasons x = new ScaffoldReasons();
        due("undo", x.undo(), NONE);
        x = house();
        x.put(0);
        x.plank(7, 0);
        x.put(4);
        x.object(4, 0, true);
        x.take(4);
        x.hour(2);
        x.put(4);
        x.concede(4);
        due("steps", x.about(3), 8);
        due("undo", x.undo(), 7);
        due("how", x.of(4, 2), 1);
        due("book (0 has fallen by wind 9, draw 2)", x.book(NONE, 0), 5);
        due("undo", x.undo(), 6);
        due("how", x.of(4, 2), 0);
        due("undo", x.undo(), 5);
        due("HOUR", x.is(0), 1);
        due("WIND", x.is(2), 7);
        due("X", x.is(1), 26239);
        due("undo", x.undo(), 4);
        due("HOUR", x.is(0), 0);
        due("WIND", x.is(2), 0);
        due("X", x.is(1), 337);
        due("undo", x.undo(), 3);
        due("how", x.of(4, 2), 1);
        due("undo", x.undo(), 2);
        due("objects", x.of(4, 3), 0);
        due("undo", x.undo(), 1);
        due("undo", x.undo(), 0);
        due("undo", x.undo(), NONE);
        due("planks stay", x.about(0), 5);
        due("up", x.is(3), 0);
        due("book", x.book(NONE, 0), 0);
        for (int i = 0; i < 40; i++) {
            if (i % 2 == 0) {
                x.put(0);
            } else {
                x.take(0);
            }
        }
        due("steps", x.about(3), 30);
        due("book", x.book(NONE, 0), 30);
        for (int i = 29; i >= 0; i--) {
            due("undo", x.undo(), i);
            due("up", x.is(3), i % 2);
        }
        due("undo", x.undo(), NONE);
        due("the book as it was", x.book(NONE, 0), 10);
        due("the book as it was", x.ledger(0), 5);
        for (int i = 0; i < 10; i++) {
            due("the book's lines", x.book(i, 2), i % 2);
        }
    }

    private static void ofAndIs() {
        promise = "16, 17";
        ScaffoldReasons x = house();
        int[] planks = {-1, 4, 8, MIN, MAX};
        for (int p : planks) {
            for (int what = -1; what < 8; what++) {
                due("of " + p + " " + what, x.of(p, what), -100);
            }
        }
        due("of", x.of(0, -1), -100);
        due("of", x.of(0, 7), -100);
        due("of", x.of(0, MAX), -100);
        int[] of = {1, 6, 0, 0, 0, 1, 0};
        for (int i = 0; i < 7; i++) {
            due("of " + i, x.of(3, i), of[i]);
        }
        due("is", x.is(5), -2);
        due("is", x.is(-1), -2);
        due("is", x.is(MIN), -2);
        x.hour(1);
        due("falls", x.of(3, 6), 6);
        due("falls", x.of(0, 6), 2);
    }

    private static void books() {
        promise = "18, 51";
        ScaffoldReasons x = house();
        due("book", x.book(NONE, 0), 0);
        due("book", x.book(0, 0), -2);
        x.hour(1);
        x.put(0);
        x.put(1);
        x.take(1);
        x.concede(0);
        due("book", x.book(NONE, 3), 4);
        int[][] lines = {{1, 0, 0, 7}, {1, 1, 0, 7}, {1, 1, 1, 7}, {1, 0, 3, 7}};
        for (int i = 0; i < 4; i++) {
            for (int what = 0; what < 4; what++) {
                due("book " + i + " " + what, x.book(i, what), lines[i][what]);
            }
        }
        due("book", x.book(4, 0), -2);
        due("book", x.book(-2, 0), -2);
        due("book", x.book(0, 4), -2);
        due("book", x.book(0, -1), -2);
        due("book", x.book(MAX, MAX), -2);
        int[] kinds = {2, 1, 0, 1};
        for (int i = 0; i < 4; i++) {
            due("ledger " + i, x.ledger(i), kinds[i]);
        }
        due("ledger", x.ledger(4), -2);
        due("ledger", x.ledger(-1), -2);
        for (int i = 0; i < 14; i++) {
            x.put(2);
            x.take(2);
        }
        due("the latest 30", x.book(NONE, 0), 30);
        due("the eldest", x.book(0, 1), 1);
        due("the eldest", x.book(0, 2), 1);
        due("the next", x.book(1, 2), 3);
        due("the latest", x.book(29, 2), 1);
        due("ledger", x.ledger(0), 14);
        due("ledger", x.ledger(1), 15);
        due("book", x.book(30, 0), -2);
    }

    private static void foretelling() {
        promise = "19";
        ScaffoldReasons x = new ScaffoldReasons();
        x.plank(1, 0);
        x.put(0);
        due("foretold", x.foretold(0), -2);
        due("foretold", x.foretold(61), -2);
        due("foretold", x.foretold(-1), -2);
        due("foretold", x.foretold(MIN), -2);
        due("foretold", x.foretold(1), 1);
        due("foretold", x.foretold(2), 0);
        due("foretold", x.foretold(60), 0);
        due("nothing changes", x.is(3), 1);
        due("nothing changes", x.is(0), 0);
        due("nothing changes", x.is(1), 337);
        due("nothing changes", x.is(2), 0);
        due("nothing changes", x.about(3), 1);
        due("nothing changes", x.book(NONE, 0), 1);
    }

    private static void holding() {
        promise = "20";
        ScaffoldReasons x = free(4);
        objections(x, 1, 12, 23, 33);
        due("none", x.holds(0), true);
        due("unopposed", x.holds(1), true);
        due("opposed", x.holds(2), false);
        due("not defended", x.holds(4), false);
        due("defended", x.holds(5), true);
        due("objecting to one another", x.holds(3), false);
        due("at odds", x.holds(13), false);
        due("others", x.holds(16), false);
        due("others", x.holds(-1), false);
        due("others", x.holds(MIN), false);
        x = free(2);
        objections(x, 1, 10);
        due("by itself", x.holds(1), true);
        due("by itself", x.holds(2), true);
        due("both", x.holds(3), false);
    }

    private static void grounding() {
        promise = "21, 22";
        ScaffoldReasons x = free(8);
        objections(x, 1, 12, 23, 34, 45, 56, 67);
        due("grounded", x.grounded(), 85);
        for (int i = 0; i < 8; i++) {
            due("round " + i, x.round(i), i % 2 == 0 ? i / 2 : NONE);
        }
        due("round", x.round(8), NONE);
        due("round", x.round(-1), NONE);
        due("round", x.round(MAX), NONE);
        x.object(7, 0, true);
        due("an even ring", x.grounded(), 0);
        due("round", x.round(0), NONE);
        x.put(0);
        due("ups don't matter", x.grounded(), 0);
        x.object(7, 0, false);
        x.object(7, 7, true);
        due("grounded", x.grounded(), 85);
        x.object(6, 7, false);
        due("at odds", x.grounded(), 85);
        due("none", new ScaffoldReasons().grounded(), 0);
    }

    private static void sets(String what, int[] got, int... want) {
        due(what + " count", got.length, want.length);
        for (int i = 0; i < want.length && i < got.length; i++) {
            due(what + " " + i, got[i], want[i]);
        }
    }

    private static int[] stables(ScaffoldReasons x) {
        int[] out = new int[x.stables(NONE)];
        for (int i = 0; i < out.length; i++) {
            out[i] = x.stables(i);
        }
        due("no more", x.stables(out.length), -2);
        due("others", x.stables(-2), -2);
        due("others", x.stables(MAX), -2);
        return out;
    }

    private static int[] preferred(ScaffoldReasons x) {
        int[] out = new int[x.preferred(NONE)];
        for (int i = 0; i < out.length; i++) {
            out[i] = x.preferred(i);
        }
        due("no more", x.preferred(out.length), -2);
        due("others", x.preferred(-2), -2);
        due("others", x.preferred(MIN), -2);
        return out;
    }

    private static int[] naive(ScaffoldReasons x) {
        int[] out = new int[x.naive(NONE)];
        for (int i = 0; i < out.length; i++) {
            out[i] = x.naive(i);
        }
        due("no more", x.naive(out.length), -2);
        due("others", x.naive(-2), -2);
        due("others", x.naive(MAX), -2);
        return out;
    }

    private static void stableSets() {
        promise = "23";
        sets("of none", stables(free(0)), 0);
        sets("of free ones", stables(free(3)), 7);
        ScaffoldReasons x = free(3);
        objections(x, 1, 10);
        sets("of two against one another", stables(x), 5, 6);
        objections(x, 22);
        sets("with one at odds", stables(x));
        objections(x, 2);
        sets("against one at odds", stables(x), 1);
        x = free(3);
        objections(x, 1, 12, 20);
        sets("of a ring of three", stables(x));
    }

    private static void preferredAndNaive() {
        promise = "24, 25, 27";
        sets("of none", preferred(free(0)), 0);
        sets("of none", naive(free(0)), 0);
        sets("of free ones", preferred(free(3)), 7);
        sets("of free ones", naive(free(3)), 7);
        ScaffoldReasons x = free(3);
        objections(x, 1, 12, 20);
        sets("of a ring of three", preferred(x), 0);
        sets("of a ring of three", naive(x), 1, 2, 4);
        due("in", x.inSets(0, false), 0);
        due("in all", x.inSets(0, true), 0);
        x = free(4);
        objections(x, 1, 10, 2, 12, 23);
        sets("preferred", preferred(x), 9, 10);
        sets("naive", naive(x), 4, 9, 10);
        sets("stable", stables(x), 9, 10);
        due("in", x.inSets(0, false), 1);
        due("in", x.inSets(3, false), 2);
        due("in", x.inSets(2, false), 0);
        due("in all", x.inSets(0, true), 0);
        due("in all", x.inSets(3, true), 1);
        due("in", x.inSets(4, false), NONE);
        due("in", x.inSets(-1, true), NONE);
        due("in", x.inSets(MAX, true), NONE);
        x = free(2);
        objections(x, 0);
        sets("preferred", preferred(x), 2);
        sets("naive", naive(x), 2);
        objections(x, 1);
        sets("preferred", preferred(x), 0);
        sets("naive", naive(x), 2);
        x = free(8);
        objections(x, 1, 10, 23, 32, 45, 54, 67, 76);
        due("preferred", x.preferred(NONE), 16);
        due("the lowest", x.preferred(0), 85);
        due("the highest", x.preferred(15), 170);
        due("stable", x.stables(NONE), 16);
        due("naive", x.naive(NONE), 16);
        due("in", x.inSets(7, false), 8);
    }

    private static void rings() {
        promise = "26";
        ScaffoldReasons x = free(8);
        due("ring", x.ring(0), NONE);
        objections(x, 1, 12, 23, 34, 45, 56, 67);
        due("ring", x.ring(3), NONE);
        objections(x, 70);
        due("ring", x.ring(3), 8);
        objections(x, 30);
        due("ring", x.ring(3), 4);
        due("ring", x.ring(5), 8);
        objections(x, 10);
        due("ring", x.ring(0), 2);
        due("ring", x.ring(2), 4);
        objections(x, 0);
        due("ring", x.ring(0), 1);
        due("ring", x.ring(1), 2);
        due("ring", x.ring(8), NONE);
        due("ring", x.ring(-1), NONE);
        due("ring", x.ring(MIN), NONE);
    }

    private static void repairs() {
        promise = "28";
        ScaffoldReasons x = free(3);
        due("none need be", x.repair(0, true), 0);
        due("none need be", x.repair(0, false), NONE);
        due("others", x.repair(3, true), -2);
        due("others", x.repair(-1, false), -2);
        due("others", x.repair(MAX, true), -2);
        objections(x, 1, 12, 20);
        due("a ring", x.repair(0, true), 1);
        due("its lowest", x.repair(0, false), 1);
        due("a ring", x.repair(1, false), 1);
        due("a ring", x.repair(2, false), 12);
        x = free(6);
        objections(x, 10, 20, 30);
        due("three", x.repair(0, true), 3);
        due("the first", x.repair(0, false), 10);
        objections(x, 40);
        due("no way by 3", x.repair(0, true), -2);
        due("no way by 3", x.repair(0, false), -2);
        objections(x, 51, 54);
        due("two are answered", x.repair(0, true), 2);
        due("the first", x.repair(0, false), 20);
        objections(x, 0);
        due("itself", x.repair(0, true), 3);
        due("itself", x.repair(0, false), 0);
        x = free(8);
        for (int i = 0; i < 64; i++) {
            x.object(i / 8, i % 8, true);
        }
        due("all against all", x.repair(7, true), -2);
        due("nothing changes", x.of(7, 4), 255);
        due("two of the least", house().repair(2, true), 0);
        x = free(4);
        objections(x, 1, 12, 21, 33);
        due("two", x.repair(1, true), 2);
        due("the first", x.repair(1, false), 1);
        due("one", x.repair(3, true), 1);
        due("one", x.repair(3, false), 33);
        // By 01 plank 1 is free of 0, by 02 (the very next one) plank 2 is, and answers 3 and 4.
        x = free(5);
        objections(x, 1, 2, 31, 41, 23, 24);
        due("two that stand next to one another", x.repair(1, true), 2);
        due("the first", x.repair(1, false), 1);
    }

    private static void heaviest() {
        promise = "29";
        due("none", new ScaffoldReasons().heaviest(true), 0);
        due("none", new ScaffoldReasons().heaviest(false), 0);
        ScaffoldReasons x = house();
        due("all", x.heaviest(true), 11);
        due("all", x.heaviest(false), 15);
        objections(x, 1, 12);
        due("0, 2, 3", x.heaviest(true), 9);
        due("0, 2, 3", x.heaviest(false), 13);
        objections(x, 0, 33);
        due("2 before 1", x.heaviest(true), 3);
        due("2 before 1", x.heaviest(false), 4);
        x = free(3);
        objections(x, 1, 12, 20);
        due("like ones", x.heaviest(false), 1);
        x = new ScaffoldReasons();
        x.plank(2, 0);
        x.plank(3, 0);
        x.plank(5, 0);
        objections(x, 20, 21);
        due("the lowest set", x.heaviest(false), 3);
        due("together", x.heaviest(true), 5);
        x.object(0, 0, true);
        due("at odds", x.heaviest(false), 4);
    }

    private static void explaining() {
        promise = "30";
        ScaffoldReasons x = new ScaffoldReasons();
        due("none", x.explain(0, NONE), 0);
        due("none", x.explain(0, 0), -2);
        due("others", x.explain(1, NONE), -2);
        due("others", x.explain(-1, NONE), -2);
        due("others", x.explain(MIN, NONE), -2);
        x = free(2);
        due("none is", x.explain(0, NONE), 0);
        due("just 0", x.explain(1, NONE), 2);
        due("just 0", x.explain(1, 0), 1);
        due("just 0", x.explain(1, 1), 11);
        due("just 0", x.explain(1, 2), -2);
        due("just 0", x.explain(1, -2), -2);
        due("just 1", x.explain(2, 0), 0);
        due("just 1", x.explain(2, 1), 10);
        due("both", x.explain(3, NONE), 0);
        objections(x, 1);
        due("dropped", x.explain(3, NONE), 1);
        due("dropped", x.explain(3, 0), 1);
        due("none is", x.explain(0, NONE), 2);
        due("none is", x.explain(0, 0), 0);
        due("none is", x.explain(0, 1), 10);
        due("the same", x.explain(1, NONE), 1);
        due("the same", x.explain(1, 0), 11);
        due("others", x.explain(4, 0), -2);
        due("nothing changes", x.of(0, 3), 2);
    }

    private static void orders() {
        promise = "31, 32";
        ScaffoldReasons x = free(8);
        due("of none", x.orders(0), 1);
        due("of all", x.orders(255), 40320);
        due("of some", x.orders(0b10100110), 24);
        due("others", x.orders(256), NONE);
        due("others", x.orders(-1), NONE);
        due("others", x.orders(MIN), NONE);
        due("others", free(2).orders(4), NONE);
        x = house();
        due("of all", x.orders(15), 3);
        due("0 and 3", x.orders(9), 2);
        due("1 and 3", x.orders(10), 1);
        due("0, 2 and 3", x.orders(13), 3);
        x.put(0);
        x.put(1);
        due("none having been", x.orders(3), 1);
        int[] order = {0, 2, 3};
        for (int i = 0; i < 3; i++) {
            due("order " + i, x.order(13, i), order[i]);
        }
        due("order", x.order(13, 3), -2);
        due("order", x.order(13, -1), -2);
        due("order", x.order(13, MIN), -2);
        due("of none", x.order(0, 0), -2);
        due("others", x.order(16, 0), -2);
        due("others", x.order(-1, 0), -2);
    }

    private static void underAndOver() {
        promise = "33, 34, 35, 36";
        ScaffoldReasons x = house();
        x.plank(1, 0);
        x.plank(1, 24);
        int[] under = {0, 1, 0, 7, 0, 31};
        int[] over = {42, 40, 40, 32, 32, 0};
        int[] high = {0, 1, 0, 2, 0, 3};
        for (int i = 0; i < 6; i++) {
            due("all " + i, x.all(i), under[i]);
            due("over " + i, x.over(i), over[i]);
            due("high " + i, x.high(i), high[i]);
            due("least " + i, x.least(i), under[i] | 1 << i);
        }
        int[] others = {-1, 6, MIN, MAX};
        for (int o : others) {
            due("all", x.all(o), NONE);
            due("over", x.over(o), NONE);
            due("high", x.high(o), NONE);
            due("least", x.least(o), NONE);
        }
        x.put(0);
        x.put(2);
        x.concede(2);
        due("least", x.least(5), 58);
        due("least of one that is up", x.least(0), 1);
        due("least of a conceded one", x.least(2), 4);
        ScaffoldReasons tall = new ScaffoldReasons();
        for (int i = 0; i < 8; i++) {
            tall.plank(1, (1 << i) - 1);
        }
        due("high", tall.high(7), 7);
        due("orders", tall.orders(255), 1);
    }

    private static void standing() {
        promise = "37";
        ScaffoldReasons x = free(8);
        due("of none", x.stand(0, false), 1);
        due("of none", x.stand(0, true), 1);
        due("others", x.stand(256, false), NONE);
        due("others", x.stand(-1, true), NONE);
        due("others", free(1).stand(2, true), NONE);
        Texts.tell(x, "falls number+1;");
        Texts.tell(x, "falls 10;");
        Texts.tell(x, "falls 3;");
        x.by(0);
        due("none is up", x.stand(255, false), 1);
        allUp(x, 7);
        due("9 of 10", x.stand(1, false), 9);
        due("9 of 10", x.stand(1, true), 10);
        due("4 of 5", x.stand(2, false), 4);
        due("4 of 5", x.stand(2, true), 5);
        due("18 of 25", x.stand(3, false), 18);
        due("18 of 25", x.stand(3, true), 25);
        due("one that is down", x.stand(129, true), 10);
        x.by(1);
        due("never", x.stand(3, false), 0);
        due("never", x.stand(3, true), 1);
        x.by(2);
        x.put(7);
        due("7 to the 8th", x.stand(255, false), 5764801);
        due("10 to the 8th", x.stand(255, true), 100000000);
        x.concede(0);
        due("a conceded one", x.stand(1, true), 1);
        x.by(NONE);
        due("no wind", x.stand(254, false), 1);
        due("no wind", x.stand(254, true), 1);
        x.by(0);
        due("nothing changes", x.is(1), 337);
    }

    private static void voting() {
        promise = "38, 39";
        ScaffoldReasons x = new ScaffoldReasons();
        int[] others = {-2, 0, 122, 124, 1123, 3211, 3310, 4012, 9999, 10123, 120, MIN, MAX, 1235};
        for (int o : others) {
            due("vote " + o, x.vote(o), -2);
        }
        due("beats", x.beats(0, 1), 0);
        int count = 0;
        int[] orders = {123, 3210, 132, 213, 231, 312, 1023};
        for (int o : orders) {
            count++;
            due("vote", x.vote(o), count);
        }
        due("the eighth", x.vote(123), -2);
        due("votes", x.about(4), 7);
        due("beats", x.beats(0, 1), 3);
        due("beats", x.beats(1, 0), -3);
        due("beats", x.beats(0, 3), 5);
        int[][] pairs = {{0, 0}, {0, 4}, {4, 0}, {-1, 0}, {0, -1}, {3, 3}, {MIN, MAX}};
        for (int[] p : pairs) {
            due("beats", x.beats(p[0], p[1]), -100);
        }
        due("none any more", x.vote(NONE), 0);
        due("votes", x.about(4), 0);
        due("beats", x.beats(0, 1), 0);
        due("vote", x.vote(3210), 1);
    }

    private static void winning() {
        promise = "40, 41, 42, 43, 44";
        ScaffoldReasons x = new ScaffoldReasons();
        due("agenda without votes", x.agenda(2130), 2);
        due("lead", x.lead(0), 123);
        due("lead", x.lead(1), 1023);
        due("lead", x.lead(2), 2013);
        due("lead", x.lead(3), 3012);
        for (int how = -1; how < 4; how++) {
            due("winner " + how, x.winner(how), NONE);
        }
        due("score", x.score(0), 0);
        due("top", x.top(), 15);
        votes(x, 123, 1203, 2013);
        due("0 to 1", x.beats(0, 1), 1);
        due("1 to 2", x.beats(1, 2), 1);
        due("2 to 0", x.beats(2, 0), 1);
        due("agenda", x.agenda(123), 2);
        due("agenda", x.agenda(1203), 0);
        due("agenda", x.agenda(213), 1);
        due("lead", x.lead(0), 1203);
        due("lead", x.lead(1), 213);
        due("lead", x.lead(2), 123);
        due("lead", x.lead(3), NONE);
        due("lead", x.lead(4), NONE);
        due("lead", x.lead(-1), NONE);
        int[] others = {-1, 0, 1234, 1233, 10123, MIN, MAX};
        for (int o : others) {
            due("agenda " + o, x.agenda(o), NONE);
        }
        for (int how = 0; how < 3; how++) {
            due("winner " + how, x.winner(how), NONE);
        }
        int[] scores = {1, 1, 1, -3};
        for (int i = 0; i < 4; i++) {
            due("score " + i, x.score(i), scores[i]);
        }
        due("score", x.score(4), -100);
        due("score", x.score(-1), -100);
        due("top", x.top(), 7);
        x.vote(NONE);
        // 0 wins by pairs (to 1 by 3 : 2), 1 has the most points (10 to 9), 0 and 3 are first as often.
        votes(x, 123, 123, 3012, 3120, 1203);
        due("pairs", x.winner(0), 0);
        due("points", x.winner(1), 1);
        due("first ones", x.winner(2), NONE);
        x.vote(NONE);
        votes(x, 3120, 3120, 3021, 123, 123, 1203, 1203);
        due("0 to 3", x.beats(0, 3), 1);
        due("1 to 0", x.beats(1, 0), 1);
        due("pairs", x.winner(0), 1);
        due("points", x.winner(1), 1);
        due("first ones", x.winner(2), 3);
        due("top", x.top(), 2);
        due("lead", x.lead(1), 123);
        due("score", x.score(1), 3);
        due("score", x.score(0), -1);
        due("score", x.score(2), 1);
        x.vote(NONE);
        votes(x, 123);
        due("top", x.top(), 1);
        votes(x, 1023);
        due("alike: the one that was there", x.agenda(123), 0);
        due("alike: the one that was there", x.agenda(1023), 1);
        due("lead", x.lead(1), 1023);
        due("lead", x.lead(2), NONE);
        due("top", x.top(), 3);
        due("score", x.score(0), 2);
        due("points alike", x.winner(1), NONE);
        due("pairs", x.winner(0), NONE);
        // 2 loses to 0 alone and 0 is alike with 1, so 1 is left just when 3, alike with 2, is there first.
        x.vote(NONE);
        votes(x, 213, 321, 1032, 2103);
        due("lead", x.lead(0), 123);
        due("the last agenda of all", x.lead(1), 3210);
        due("lead", x.lead(2), 1023);
        due("lead", x.lead(3), NONE);
    }

    private static void saying() {
        promise = "45, 46";
        ScaffoldReasons x = free(2);
        due("no text", x.whose(), 0);
        int[][] others = {{2, 0}, {-2, 0}, {0, -1}, {0, 11}, {MIN, 0}, {MAX, 0}, {0, MIN}, {0, MAX}};
        for (int[] o : others) {
            due("said " + o[0] + " " + o[1], x.said(o[0], o[1]), -2);
        }
        Texts.tell(x, "falls number+1;");
        Texts.tell(x, "falls 1;");
        Texts.tell(x, "puts 3;");
        Texts.tell(x, "falls 99;");
        due("all, as none is said", x.whose(), 15);
        due("said", x.said(0, 1), 1);
        due("whose", x.whose(), 3);
        due("said", x.said(1, 2), 2);
        due("whose", x.whose(), 1);
        due("said", x.said(1, 1), 3);
        due("whose", x.whose(), 0);
        due("none any more", x.said(NONE, 5), 0);
        due("about", x.about(5), 0);
        due("said", x.said(0, 10), 1);
        due("whose", x.whose(), 8);
        x.said(NONE, 0);
        x.said(1, 0);
        due("without falls", x.whose(), 4);
        x.hour(1);
        due("as now", x.whose(), 0);
        x.said(NONE, 0);
        x.said(1, 2);
        due("as now", x.whose(), 5);
        for (int i = 2; i <= 8; i++) {
            due("said", x.said(0, 0), i);
        }
        due("the ninth", x.said(0, 0), -2);
        due("about", x.about(5), 8);
        due("whoever rules", x.about(2), NONE);
    }

    private static void bitsOfPlanks() {
        promise = "47, 48, 49, 50";
        ScaffoldReasons x = house();
        due("gaps", x.gaps(), 5);
        due("loaded", x.loaded(), NONE);
        x.put(0);
        due("gaps", x.gaps(), 6);
        due("loaded", x.loaded(), NONE);
        x.put(2);
        due("gaps", x.gaps(), 2);
        x.put(1);
        due("gaps", x.gaps(), 8);
        due("loaded", x.loaded(), 0);
        x.concede(1);
        due("gaps", x.gaps(), 8);
        due("loaded", x.loaded(), NONE);
        x.put(3);
        due("gaps", x.gaps(), 0);
        due("loaded", x.loaded(), 2);
        x.plank(1, 5);
        x.put(4);
        due("the most", x.loaded(), 2);
        x.plank(1, 9);
        x.put(5);
        due("the lowest of like ones", x.loaded(), 0);
        due("unopposed", x.unopposed(), 63);
        due("at odds", x.atOdds(), 0);
        objections(x, 1, 22, 35);
        due("unopposed", x.unopposed(), 25);
        due("at odds", x.atOdds(), 4);
        objections(x, 0, 55);
        due("unopposed", x.unopposed(), 24);
        due("at odds", x.atOdds(), 37);
        due("none", new ScaffoldReasons().unopposed(), 0);
        due("none", new ScaffoldReasons().gaps(), 0);
    }

    private static void images() {
        promise = "52, 53";
        ScaffoldReasons x = house();
        Texts.tell(x, "falls 10;");
        x.by(0);
        x.put(0);
        x.object(0, 1, true);
        x.vote(123);
        x.vote(3210);
        x.said(0, 4);
        x.hour(1);
        x.put(2);
        due("image", x.image(), 1);
        x.plank(9, 0);
        Texts.tell(x, "falls 0;put 0;");
        x.by(1);
        x.vote(NONE);
        x.vote(2130);
        x.said(1, 9);
        x.object(0, 1, false);
        x.object(3, 3, true);
        x.take(2);
        x.hour(60);
        Texts.feed(x, "puts");
        for (int i = 0; i < 2; i++) {
            due("back", x.back(), 1);
            int[] about = {4, 1, 0, 4, 2, 1, 4};
            for (int what = 0; what < 7; what++) {
                due("about " + what, x.about(what), about[what]);
            }
            due("up", x.is(3), 4);
            due("wind", x.is(2), 7);
            due("X", x.is(1), 26239);
            due("objects", x.of(0, 3), 2);
            due("objects", x.of(3, 3), 0);
            due("book", x.book(NONE, 0), 3);
            due("votes", x.beats(0, 3), 0);
            due("falls", x.of(0, 6), 10);
            due("the fault stays", x.fault(0), 0);
            due("the book's lines", x.book(0, 2), 0);
            due("the book's lines", x.book(1, 2), 2);
            due("the book's lines", x.book(2, 1), 2);
            due("whose", x.whose(), 0);
            x.said(NONE, 0);
            x.said(3, 10);
            due("whose", x.whose(), 1);
            due("undo", x.undo(), 3);
            due("undo", x.undo(), 2);
            due("HOUR", x.is(0), 0);
            due("up", x.is(3), 1);
            due("undo", x.undo(), 1);
            due("objects", x.of(0, 3), 0);
            due("undo", x.undo(), 0);
            x.put(2);
            x.hour(30);
            x.hour(30);
        }
        x.back();
        x.end(0);
        due("a text in the place of the other one", Texts.tell(x, "falls 3;"), 1);
        x.by(1);
        due("its law", x.of(0, 6), 3);
        due("image", x.image(), 1);
        Texts.tell(x, "puts");
        x.back();
        due("the latest fault stays", x.fault(0), 1);
        due("the latest fault stays", x.fault(1), 4);
        due("its law", x.of(0, 6), 3);
    }

    private static void about() {
        promise = "54";
        ScaffoldReasons x = house();
        Texts.tell(x, "");
        Texts.tell(x, "");
        x.by(1);
        x.put(0);
        x.vote(123);
        x.vote(123);
        x.vote(123);
        x.said(0, 0);
        x.feed(0, 0, 0, 0, 0);
        int[] about = {4, 2, 1, 1, 3, 1, 20};
        for (int what = 0; what < 7; what++) {
            due("about " + what, x.about(what), about[what]);
        }
        due("about", x.about(7), -2);
        due("about", x.about(-1), -2);
        due("about", x.about(MIN), -2);
        due("about", x.about(MAX), -2);
    }
}
