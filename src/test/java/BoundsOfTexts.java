/** The sentences of the document's part II: texts, their tokens, laws, faults, and how they are played. */
final class BoundsOfTexts extends Bounds {
    private static final String DEEP = "((((((((";
    private static final String SHUT = "))))))))";

    private BoundsOfTexts() { }

    static void textsAreFour() {
        sentence(TERMS, "TEXTS 0 .. 3");
        ScaffoldReasons x = free(0);
        for (int i = 0; i < 4; i++) {
            due("ahead of it", x.by(i), false);
            due("text", Texts.tell(x, "hour 1;"), i);
            due("by", x.by(i), true);
        }
        due("a fifth", Texts.tell(x, "hour 1;"), NONE);
        due("a fifth", x.by(4), false);
        due("a fifth", x.played(4), -2);
    }

    static void textsOf300Bytes() {
        sentence(TERMS, "of up to 300 bytes");
        fine("");
        fine("hour 1;" + " ".repeat(293));
        fine(" ".repeat(293) + "hour 1;");
        fine(" ".repeat(300));
        // 1 and 146 times +1: the last byte is the ;.
        fine("puts  1" + "+1".repeat(146) + ";");
        faulty(" ".repeat(299) + "?", 1, 299);
        faulty(" ".repeat(294) + "hour 1", 1, 300);
        ScaffoldReasons x = free(0);
        Texts.feed(x, " ".repeat(293) + "hour 1;");
        due("300 bytes", x.about(6), 300);
        due("no more", x.feed(0, 0, 0, 0, 0), NONE);
        due("text", x.text(), 0);
        due("played", x.played(0), NONE);
        due("its last clause", x.is(0), 1);
    }

    static void blanksAreTwo() {
        sentence(TERMS, "TOKENS, blanks (32, 10) aside");
        fine(" \n put\n0 \n;\n ");
        for (int sign = 0; sign < 256; sign++) {
            boolean isPart = sign >= '0' && sign <= '9' || sign == ';';
            if (sign != 32 && sign != 10 && !isPart) {
                faulty("put 0" + (char) sign + ";", 1, 5);
            }
        }
        puts("12", 12);
        faulty("puts 1 2;", 1, 7);
        faulty("puts 1\n2;", 1, 7);
        faulty("pu\nts 1;", 1, 0);
    }

    static void lettersMakeOneToken() {
        sentence(TERMS, "letters a .. z, A .. Z one behind the other (one TOKEN)");
        faulty("puta 0;", 1, 0);
        faulty("putz 0;", 1, 0);
        faulty("putA 0;", 1, 0);
        faulty("putZ 0;", 1, 0);
        // The signs next to a, z, A, Z are no letters: put is whole ahead of them.
        faulty("put` 0;", 1, 3);
        faulty("put{ 0;", 1, 3);
        faulty("put@ 0;", 1, 3);
        faulty("put[ 0;", 1, 3);
        faulty("Put 0;", 1, 0);
        faulty("PUT 0;", 1, 0);
        faulty("putput 0;", 1, 0);
        faulty("putsnumber;", 1, 0);
        fine("put 0;put 1;");
        fine("put0;");
    }

    static void digitsMakeOneNumber() {
        sentence(TERMS, "digits likewise (NUMBERS, 0 .. 9999)");
        puts("0", 0);
        puts("9999-9998", 1);
        puts("0009", 9);
        puts("00000000000000000000000000000009", 9);
        faulty("puts 10000;", 2, 5);
        faulty("puts 1/10000;", 2, 7);
        faulty("puts 4294967296;", 2, 5);
        faulty("puts 18446744073709551617;", 2, 5);
        // The signs next to 0 and 9.
        faulty("puts 1:;", 1, 6);
        puts("8/4", 2);
        faulty("put 1a;", 1, 5);
        faulty("puts 1.5;", 1, 6);
        puts("00009876-9875", 1);
    }

    static void longestSigns() {
        sentence(TERMS, "<= >= < > = # + - * / ( ) ; (the longest)");
        puts("if 1<=1 then 2 else 3 end", 2);
        puts("if 1>=1 then 2 else 3 end", 2);
        puts("if 1<1 then 2 else 3 end", 3);
        puts("if 1>1 then 2 else 3 end", 3);
        puts("if 1=1 then 2 else 3 end", 2);
        puts("if 1#1 then 2 else 3 end", 3);
        faulty("puts if 1< =1 then 2 else 3 end;", 1, 11);
        faulty("puts if 1> =1 then 2 else 3 end;", 1, 11);
        faulty("puts if 1=<1 then 2 else 3 end;", 1, 10);
        faulty("puts if 1=>1 then 2 else 3 end;", 1, 10);
        faulty("puts if 1<<1 then 2 else 3 end;", 1, 10);
        faulty("puts if 1<==1 then 2 else 3 end;", 1, 11);
        faulty("puts if 1<>1 then 2 else 3 end;", 1, 10);
        faulty("puts if 1##1 then 2 else 3 end;", 1, 10);
        puts("(1+2)*6/3-2", 4);
        for (String sign : new String[] {"!", "\"", "$", "%", "&", "'", ",", ".", ":", "?", "\\", "]", "^", "_", "|", "}", "~"}) {
            faulty("puts 1" + sign + "1;", 1, 6);
        }
    }

    static void clauses24() {
        sentence(TERMS, "{CLAUSE}, 24 at most");
        fine("");
        fine("take 0;".repeat(24));
        fine("puts 1;falls 1;" + "take 0;".repeat(22));
        faulty("take 0;".repeat(25), 6, 168);
        ScaffoldReasons x = free(0);
        due("text", Texts.tell(x, "hour 1;".repeat(24)), 0);
        due("played", x.played(0), NONE);
        due("all 24 of them", x.is(0), 24);
    }

    static void lawsOnce() {
        sentence(TERMS, "puts SUM ; or falls SUM ; (each once)");
        fine("puts 1;falls 1;");
        fine("falls 1;puts 1;");
        fine("puts 1;");
        fine("falls 1;");
        faulty("puts 1;puts 1;", 4, 7);
        faulty("falls 1;falls 1;", 4, 8);
        faulty("puts 1;falls 1;puts 1;", 4, 15);
        faulty("puts 1;falls 1;falls 1;", 4, 15);
        faulty("puts;", 1, 4);
        faulty("falls", 1, 5);
    }

    static void planksOnNine() {
        sentence(TERMS, "plank NUMBER on NUMBER ; (WEIGHT; the PLANK on which it RESTS; 9: on none)");
        ScaffoldReasons x = free(0);
        Texts.tell(x, "plank 9 on 9;plank 1 on 0;plank 2 on 1;plank 3 on 2;plank 4 on 3;plank 5 on 4;plank 6 on 5;plank 7 on 6;");
        due("played", x.played(0), NONE);
        due("9: on none", x.of(0, 1), 0);
        due("its weight", x.of(0, 0), 9);
        for (int i = 1; i < 8; i++) {
            due("on one", x.of(i, 1), 1 << i - 1);
            due("weight", x.of(i, 0), i);
        }
        x = free(1);
        Texts.tell(x, "plank 1 on 1;");
        due("on itself", x.played(0), 0);
        Texts.tell(x, "plank 1 on 7;");
        due("on one that isn't told", x.played(1), 0);
        due("planks", x.about(0), 1);
    }

    static void sums() {
        sentence(TERMS, "SUM: PRODUCT {+ or - PRODUCT}");
        puts("5", 5);
        puts("5-3-2-1", -1);
        puts("1+2*3+4", 11);
        puts("1" + "+1".repeat(98), 99);
        faulty("puts 1+;", 1, 7);
        faulty("puts 1-;", 1, 7);
        faulty("puts +1;", 1, 5);
        faulty("puts 1++1;", 1, 7);
    }

    static void products() {
        sentence(TERMS, "PRODUCT: ONE {* or / ONE}");
        puts("24/4/3", 2);
        puts("24/4*3", 18);
        puts("2*3*4", 24);
        puts("2*-3", -6);
        faulty("puts 1*;", 1, 7);
        faulty("puts 1/;", 1, 7);
        faulty("puts *1;", 1, 5);
        faulty("puts 1*/1;", 1, 7);
    }

    static void bitsWithoutSigns() {
        sentence(TERMS, "bits ONE of ONE (the sum of 1, 2, 4, .. that both numbers are made of, signs aside)");
        puts("bits 0 of 7", 0);
        puts("bits 7 of 0", 0);
        puts("bits 7 of 13", 5);
        puts("bits -7 of 13", 5);
        puts("bits 7 of -13", 5);
        puts("bits -7 of -13", 5);
        puts("bits 8 of 7", 0);
        // 1000000 is 11110100001001000000 by twos, 64 the least.
        puts("bits (9999*9999) of 127", 64);
        puts("bits (-9999*9999) of 127", 64);
        puts("bits (9999*9999) of (9999*9999)/9999-99", 1);
        puts("bits 7 of 13-1", 4);
        faulty("puts bits 1+1 of 1;", 1, 11);
    }

    static void heavyOfOthers() {
        sentence(TERMS, "heavy ONE (WEIGHT of the PLANK of that number; 0 for others)");
        puts("heavy 0", 4);
        puts("heavy 1", 7);
        puts("heavy 2", 0);
        puts("heavy 7", 0);
        puts("heavy 8", 0);
        puts("heavy -1", 0);
        puts("heavy 9999", 0);
        puts("heavy (9999*9999)", 0);
        puts("heavy (-9999*9999)", 0);
        ScaffoldReasons x = ruled(free(7), "puts heavy 7;");
        due("not told yet", x.of(0, 5), 0);
        x.plank(9, 0);
        due("told", x.of(0, 5), 9);
    }

    static void eithers() {
        sentence(TERMS, "EITHER: BOTH {or BOTH}");
        puts("if 1=1 then 2 else 3 end", 2);
        puts("if 1=2 or 1=2 or 1=1 then 2 else 3 end", 2);
        puts("if 1=2 or 1=2 or 1=2 then 2 else 3 end", 3);
        puts("if 1=1 or 1=1 and 1=2 then 2 else 3 end", 2);
        faulty("puts if then 2 else 3 end;", 1, 8);
        faulty("puts if 1=1 or then 2 else 3 end;", 1, 15);
        faulty("puts if or 1=1 then 2 else 3 end;", 1, 8);
    }

    static void boths() {
        sentence(TERMS, "BOTH: ASK {and ASK}");
        puts("if 1=1 and 1=1 and 1=1 then 2 else 3 end", 2);
        puts("if 1=1 and 1=1 and 1=2 then 2 else 3 end", 3);
        puts("if 1=2 and 1=1 and 1=1 then 2 else 3 end", 3);
        puts("if 1=2 and 1=1 then 2 else 3 end", 3);
        puts("if 1=2 and 1=1 or 1=1 then 2 else 3 end", 2);
        faulty("puts if 1=1 and then 2 else 3 end;", 1, 16);
        faulty("puts if and 1=1 then 2 else 3 end;", 1, 8);
    }

    static void asks() {
        sentence(TERMS, "ASK: not ASK, or SUM one of < <= > >= = # (unlike) SUM");
        String[] signs = {"<", "<=", ">", ">=", "=", "#"};
        int[][] answers = {{1, 0, 0}, {1, 1, 0}, {0, 0, 1}, {0, 1, 1}, {0, 1, 0}, {1, 0, 1}};
        for (int s = 0; s < signs.length; s++) {
            for (int left = 1; left <= 3; left++) {
                String ask = left + signs[s] + "2";
                puts("if " + ask + " then 1 else 0 end", answers[s][left - 1]);
                puts("if not " + ask + " then 1 else 0 end", 1 - answers[s][left - 1]);
                puts("if not not " + ask + " then 1 else 0 end", answers[s][left - 1]);
            }
        }
        puts("if -1<0 then 1 else 0 end", 1);
        puts("if not 1=1 and 1=2 then 1 else 0 end", 0);
        faulty("puts if 1 then 2 else 3 end;", 1, 10);
        faulty("puts if 1=1=1 then 2 else 3 end;", 1, 11);
        faulty("puts if not then 2 else 3 end;", 1, 12);
    }

    static void namesAtTheirEdges() {
        sentence(TERMS, "up (how many are up), against (how many that are up object to it) in both");
        ScaffoldReasons x = objecting(free(8), 7, 17, 77, 70);
        Texts.tell(x, "puts up*10+against;falls up+against;");
        x.by(0);
        due("none is up", x.of(7, 5), 0);
        due("none is up", x.of(7, 6), 0);
        x.by(NONE);
        up(x, 1);
        x.concede(1);
        up(x, 0, 2);
        x.by(0);
        due("a conceded one objects no more", x.of(7, 5), 21);
        due("a conceded one objects no more", x.of(7, 6), 3);
        x.by(NONE);
        up(x, 7);
        x.by(0);
        due("itself too", x.of(7, 5), 32);
        due("itself too", x.of(7, 6), 5);
        x.by(NONE);
        up(x, 3, 4, 5, 6);
        x.by(0);
        due("seven up", x.of(3, 5), 70);
        due("seven up", x.of(3, 6), 7);
    }

    static void namesOfOneLaw() {
        sentence(TERMS, "rests (on how many it RESTS) in puts; load (how many that are up REST on it) in falls");
        ScaffoldReasons x = new ScaffoldReasons();
        for (int i = 0; i < 8; i++) {
            x.plank(1, (1 << i) - 1);
        }
        Texts.tell(x, "puts rests+1;falls load;");
        x.by(0);
        due("on none", x.of(0, 5), 1);
        due("on seven", x.of(7, 5), 8);
        due("none is up", x.of(0, 6), 0);
        up(x, 0, 1, 2, 3, 4, 5, 6, 7);
        due("seven on it", x.of(0, 6), 7);
        due("none on it", x.of(7, 6), 0);
        x.concede(3);
        due("a conceded one does not count", x.of(0, 6), 6);
        due("how it is itself does not matter", x.of(3, 6), 4);
        faulty("falls rests;", 5, 6);
        faulty("puts load;", 5, 5);
    }

    static void dividing() {
        sentence(TERMS, "From the left; / cuts towards 0, by 0 it is 0");
        puts("2-3-4", -5);
        puts("100/10/5", 2);
        puts("7/2", 3);
        puts("-7/2", -3);
        puts("7/-2", -3);
        puts("-7/-2", 3);
        puts("1/2", 0);
        puts("-1/2", 0);
        puts("7/0", 0);
        puts("-7/0", 0);
        puts("0/0", 0);
        puts("7/(2-2)+3", 3);
        puts("7/0*2", 0);
    }

    static void atMostAMillion() {
        sentence(TERMS, "what is above 1000000 (below the same less) is that, at each step");
        puts("1000*1000-999*1001", 1);
        puts("1000*1000+1-1000*1000", 0);
        puts("1000*1000-1+1-999*1001", 1);
        puts("1000*1000+9999-9999+0-999*1001", -99);
        puts("(1000*1000+1)-999*1001", 1);
        puts("1000*1001-999*1001", 1);
        puts("9999*9999-999*1001", 1);
        puts("9999*9999*9999*9999-999*1001", 1);
        puts("9999*9999/9999", 99);
        puts("9999*9999/9999-99", 1);
        puts("-1000*1000+999*1001", -1);
        puts("-1000*1000-1+999*1001", -1);
        puts("-9999*9999+999*1001", -1);
        puts("-9999*9999*9999*9999+999*1001", -1);
        puts("9999*-9999+999*1001", -1);
        puts("0-9999*9999-9999*9999+999*1001", -1);
        puts("-(9999*9999)+999*1001", -1);
        puts("-(0-9999*9999)-999*1001", 1);
    }

    static void firstFault() {
        sentence(TERMS, "FAULTS, the first as TOKENS are come to");
        faulty("put 8;put ?;", 2, 4);
        faulty("put ?;put 8;", 1, 4);
        faulty("puts load ?;", 5, 5);
        faulty("puts 1;puts load;", 4, 7);
        faulty("puts load;puts 1;", 5, 5);
        faulty("puts (10000;", 2, 6);
        faulty("puts 10000 load", 2, 5);
        faulty("take 0;".repeat(24) + "take 8", 6, 168);
        faulty("take 0;".repeat(23) + "take 8;take 0;", 2, 166);
    }

    static void faultsPlace() {
        sentence(TERMS, "at the TOKEN's first byte (of the end at the length)");
        faulty("?", 1, 0);
        faulty("  \n foo", 1, 4);
        faulty("put  12345;", 2, 5);
        faulty("put 0", 1, 5);
        faulty("put 0 \n ", 1, 8);
        faulty("put", 1, 3);
        faulty("puts 1" + "+1".repeat(147), 1, 300);
        faulty(" ".repeat(280) + "put 0", 1, 285);
        ScaffoldReasons x = free(0);
        Texts.feed(x, "put 0;put 0;");
        x.end(11);
        due("text", x.text(), NONE);
        due("the length is where the tape was cut", x.fault(1), 11);
    }

    static void leastFaultOfOne() {
        sentence(TERMS, "of one the least");
        faulty("puts 1;" + "take 0;".repeat(23) + "puts 1;", 4, 168);
        faulty("falls 1;" + "take 0;".repeat(23) + "falls 1;", 4, 169);
        faulty("puts 1;" + "take 0;".repeat(23) + "falls 1;", 6, 168);
        faulty("take 0;".repeat(24) + "?", 1, 168);
        faulty("take 0;".repeat(24) + "wind", 1, 168);
        faulty("take 0;".repeat(24) + "0", 1, 168);
        faulty("take 10000 10000;", 2, 5);
        faulty("take 0 10000;", 1, 7);
        faulty("puts 1 load;", 1, 7);
        faulty("puts 1(;", 1, 6);
        faulty("puts " + DEEP + "1 (;", 1, 15);
        faulty("puts " + DEEP + "1 not;", 1, 15);
        faulty("puts " + DEEP + " not 1;", 1, 14);
        faulty("puts " + DEEP + ");", 1, 13);
        faulty("puts " + DEEP + "load;", 5, 13);
        faulty("puts " + DEEP + "10000;", 2, 13);
    }

    static void cantStandThere() {
        sentence(TERMS, "1 it can't stand there, or is none");
        String[] nowhere = {"foo", "?", "\t", "\u00ff", "\u0080", "\u0000", "_", "Put"};
        for (String token : nowhere) {
            faulty(token, 1, 0);
            faulty("put " + token + ";", 1, 4);
            faulty("put 0" + " " + token, 1, 6);
            faulty("puts " + token + ";", 1, 5);
        }
        faulty(";", 1, 0);
        faulty("1;", 1, 0);
        faulty("put 0;;", 1, 6);
        faulty("put ;", 1, 4);
        faulty("put -1;", 1, 4);
        faulty("put (0);", 1, 4);
        faulty("put 0 on 1;", 1, 6);
        faulty("plank 1;", 1, 7);
        faulty("object 1;", 1, 8);
        faulty("drop 1;", 1, 6);
        faulty("plank 1 to 9;", 1, 8);
        faulty("object 0 on 1;", 1, 9);
        faulty("drop 0 1;", 1, 7);
        faulty("hour wind;", 1, 5);
        faulty("wind 1;", 1, 0);
        faulty("on 1;", 1, 0);
        faulty("puts ();", 1, 6);
        faulty("puts (1;", 1, 7);
        faulty("puts 1);", 1, 6);
        faulty("puts if 1=1 then 1 end;", 1, 19);
        faulty("puts if 1=1 then 1 else 1;", 1, 25);
    }

    static void wrongNumbers() {
        sentence(TERMS, "2 a NUMBER that isn't one of those told (above 9999; WEIGHT 1 .. 9, PLANKS 0 .. 7, of on 0 .. 7 and 9, HOURS 1 .. 60)");
        fine("puts 9999;");
        faulty("puts 10000;", 2, 5);
        fine("plank 1 on 9;plank 9 on 9;");
        faulty("plank 0 on 9;", 2, 6);
        faulty("plank 10 on 9;", 2, 6);
        fine("plank 1 on 0;plank 1 on 7;plank 1 on 9;");
        faulty("plank 1 on 8;", 2, 11);
        faulty("plank 1 on 10;", 2, 11);
        for (String one : new String[] {"put ", "take ", "concede "}) {
            fine(one + "0;" + one + "7;");
            faulty(one + "8;", 2, one.length());
            faulty(one + "9;", 2, one.length());
            faulty(one + "10000;", 2, one.length());
        }
        for (String two : new String[] {"object ", "drop "}) {
            fine(two + "0 to 7;" + two + "7 to 0;");
            faulty(two + "8 to 0;", 2, two.length());
            faulty(two + "9 to 0;", 2, two.length());
            faulty(two + "0 to 8;", 2, two.length() + 5);
            faulty(two + "0 to 9;", 2, two.length() + 5);
        }
        fine("hour 1;hour 60;");
        faulty("hour 0;", 2, 5);
        faulty("hour 61;", 2, 5);
        faulty("hour 10000;", 2, 5);
    }

    static void ninthOpen() {
        sentence(TERMS, "3 the 9th of ( not bits heavy if and - (of one ONE) that are open around one another");
        fine("puts " + DEEP + "1" + SHUT + ";");
        faulty("puts " + DEEP + "(1)" + SHUT + ";", 3, 13);
        faulty("puts " + DEEP + "-1));", 3, 13);
        faulty("puts " + DEEP + "heavy 1));", 3, 13);
        faulty("puts " + DEEP + "bits 1 of 1));", 3, 13);
        faulty("puts " + DEEP + "if 1=1 then 1 else 1 end));", 3, 13);
        fine("puts --------1;");
        faulty("puts ---------1;", 3, 13);
        fine("puts " + "heavy ".repeat(8) + "1;");
        faulty("puts " + "heavy ".repeat(9) + "1;", 3, 53);
        fine("puts if " + "not ".repeat(7) + "1=1 then 1 else 1 end;");
        faulty("puts if " + "not ".repeat(8) + "1=1 then 1 else 1 end;", 3, 36);
        fine("puts " + "if 1=1 then ".repeat(8) + "1" + " else 1 end".repeat(8) + ";");
        faulty("puts " + "if 1=1 then ".repeat(9) + "1", 3, 101);
        fine("puts " + "bits 1 of ".repeat(8) + "1;");
        faulty("puts " + "bits 1 of ".repeat(9) + "1;", 3, 85);
        fine("puts " + "bits ".repeat(8) + "1" + " of 1".repeat(8) + ";");
        faulty("puts " + "bits ".repeat(9) + "1", 3, 45);
        // What is shut is open no more, and a - between two is none of them.
        fine("puts (1)" + "+(1)".repeat(20) + ";");
        fine("puts -1" + "-1".repeat(20) + ";");
        fine("puts --------1-1-1;");
        fine("puts " + DEEP + "1-1" + SHUT + "-(1);");
        fine("puts if " + "not 1=1 and ".repeat(9) + "1=1 then 1 else 1 end;");
        fine("puts heavy 1" + "+heavy 1".repeat(20) + ";");
        fine("puts 1;falls " + DEEP + "1" + SHUT + ";");
    }

    static void bitsTillWhole() {
        sentence(TERMS, "(at it; bits till its second is whole)");
        String seven = "(((((((";
        fine("puts " + seven + "bits 1 of 1)))))));");
        faulty("puts " + seven + "bits (1) of 1)))))));", 3, 17);
        faulty("puts " + seven + "bits 1 of (1))))))));", 3, 22);
        faulty("puts " + seven + "bits 1 of -1)))))));", 3, 22);
        fine("puts " + seven + "bits 1 of 1+(1))))))));");
        fine("puts " + seven + "bits 1 of 1-(1))))))));");
        fine("puts " + seven + "-1-(1))))))));");
        fine("puts " + seven + "heavy 1*(1))))))));");
        fine("puts " + seven + "if 1=1 then 1 else 1 end*(1))))))));");
        faulty("puts " + seven + "if (1)=1 then 1 else 1 end)))))));", 3, 15);
        faulty("puts " + seven + "if 1=1 then (1) else 1 end)))))));", 3, 24);
        faulty("puts " + seven + "if 1=1 then 1 else (1) end)))))));", 3, 31);
        fine("puts ((((((if not 1=1 and (1)=1 then 1 else 1 end))))));");
        faulty("puts ((((((if not (1)=1 then 1 else 1 end))))));", 3, 18);
        fine("puts (((((if not (1)=1 then 1 else 1 end)))));");
    }

    static void lawsForTheSecondTime() {
        sentence(TERMS, "4 puts, falls for the second time (at it)");
        faulty("puts 1;puts 2;", 4, 7);
        faulty("puts 1; \n puts", 4, 10);
        faulty("falls 1;falls ?", 4, 8);
        faulty("puts 1;take 0;falls 1;puts 1;", 4, 22);
        faulty("puts 1 puts 1;", 1, 7);
        fine("put 0;puts 1;put 0;");
        ScaffoldReasons x = free(1);
        due("faulty", Texts.tell(x, "puts 1;?"), NONE);
        due("another text has its own", Texts.tell(x, "puts 1;"), 0);
        due("another text has its own", Texts.tell(x, "puts 1;"), 1);
    }

    static void namesOfTheOtherLaw() {
        sentence(TERMS, "5 a NAME that isn't of that CLAUSE (at it)");
        faulty("puts load;", 5, 5);
        faulty("falls rests;", 5, 6);
        faulty("puts 1+(2*load", 5, 10);
        faulty("falls 1;puts load;", 5, 13);
        faulty("puts 1;falls rests;", 5, 13);
        fine("falls load;puts rests;");
        for (String name : new String[] {"hour", "wind", "number", "weight", "up", "against"}) {
            fine("puts " + name + ";falls " + name + ";");
        }
        faulty("puts foo;", 1, 5);
        faulty("put rests;", 1, 4);
    }

    static void clause25() {
        sentence(TERMS, "6 the 25th CLAUSE (at its first TOKEN)");
        String many = "take 0;".repeat(24);
        fine(many);
        fine(many + " \n ");
        for (String kind : new String[] {"puts", "falls", "plank", "put", "take", "concede", "object", "drop", "hour"}) {
            faulty(many + " " + kind, 6, 169);
        }
        faulty("puts 1;falls 1;" + many.substring(14) + "take 0;", 6, 169);
    }

    static void noTextAtFirst() {
        sentence(TERMS, "THE TEXT (told; at first none) rules");
        ScaffoldReasons x = free(1);
        due("at first", x.about(2), NONE);
        Texts.tell(x, "puts 0;falls 5;");
        due("a text that is there does not rule yet", x.about(2), NONE);
        due("puts", x.of(0, 5), 1);
        due("falls", x.of(0, 6), 0);
        x.by(0);
        due("puts", x.of(0, 5), 0);
        due("falls", x.of(0, 6), 5);
        x.by(NONE);
        due("puts", x.of(0, 5), 1);
    }

    static void putsWithin99() {
        sentence(TERMS, "puts: -99 at least, 99 at most; without: 1");
        puts("98", 98);
        puts("99", 99);
        puts("100", 99);
        puts("9999*9999", 99);
        puts("-98", -98);
        puts("-99", -99);
        puts("-100", -99);
        puts("-9999*9999", -99);
        puts("99-1000+901", 0);
        ScaffoldReasons x = free(1);
        due("without a text", x.of(0, 5), 1);
        ruled(x, "falls 5;");
        due("without puts", x.of(0, 5), 1);
        due("put", x.put(0), true);
    }

    static void fallsWithin10() {
        sentence(TERMS, "falls (the odds of 10): 0 at least, 10 at most; without: WIND less WEIGHT");
        int[][] falls = {{9, 9}, {10, 10}, {11, 10}, {1, 1}, {0, 0}, {-1, 0}};
        for (int[] f : falls) {
            due("falls " + f[0], ruled(free(1), "falls " + f[0] + ";").of(0, 6), f[1]);
        }
        due("far above", ruled(free(1), "falls 9999*9999;").of(0, 6), 10);
        due("far below", ruled(free(1), "falls -9999*9999;").of(0, 6), 0);
        ScaffoldReasons x = new ScaffoldReasons();
        for (int weight = 1; weight <= 8; weight++) {
            x.plank(weight, 0);
        }
        due("WIND 0", x.of(0, 6), 0);
        x.hour(1);
        for (int weight = 1; weight <= 8; weight++) {
            due("WIND 7, weight " + weight, x.of(weight - 1, 6), Math.max(0, 7 - weight));
        }
        ruled(x, "puts 0;");
        due("a text without falls", x.of(0, 6), 6);
        x.hour(2);
        due("WIND 9, the most", x.of(0, 6), 8);
    }

    static void playedButLaws() {
        sentence(TERMS, "PLAYED by a TEXT: its CLAUSES but laws, in their order, as by hand");
        ScaffoldReasons x = free(0);
        Texts.tell(x, "");
        due("none", x.played(0), NONE);
        Texts.tell(x, "puts 0;falls 10;");
        due("laws alone", x.played(1), NONE);
        due("they don't rule by that", x.about(2), NONE);
        due("nor is it a step", x.about(3), 0);
        Texts.tell(x, "plank 1 on 9;put 0;take 0;put 0;object 0 to 0;drop 0 to 0;concede 0;hour 2;");
        due("each kind", x.played(2), NONE);
        due("steps", x.about(3), 8);
        due("conceded", x.is(4), 1);
        due("HOUR", x.is(0), 2);
        due("lines", x.book(NONE, 0), 4);
    }

    static void playedToWhatCantBe() {
        sentence(TERMS, "one that can't be ends it");
        String[] cant = {"plank 1 on 7;", "put 0;", "put 1;", "take 1;", "concede 1;", "object 0 to 0;", "drop 0 to 1;", "object 0 to 1;"};
        for (String clause : cant) {
            ScaffoldReasons x = objecting(up(free(1), 0), 0);
            Texts.tell(x, "hour 1;" + clause + "hour 1;");
            due(clause, x.played(0), 1);
            due("what follows isn't done", x.is(0), 1);
        }
    }

    static void playedHoursThatCan() {
        sentence(TERMS, "(of so many HOURS those that can pass do)");
        ScaffoldReasons x = at(9939);
        Texts.tell(x, "hour 60;");
        Texts.tell(x, "hour 1;plank 1 on 9;");
        x.image();
        due("all of them", x.played(0), NONE);
        due("HOUR", x.is(0), 9999);
        due("none", x.played(1), 0);
        due("nothing behind it", x.about(0), 0);
        x.back();
        due("one", x.played(1), NONE);
        due("59 of 60", x.played(0), 0);
        due("HOUR", x.is(0), 9999);
        due("each was a step", x.undo(), 29);
        due("HOUR", x.is(0), 9998);
    }

    static void playedNumbers() {
        sentence(TERMS, "its number among all CLAUSES (from 0); what was done stays");
        ScaffoldReasons x = free(2);
        Texts.tell(x, "take 0;");
        Texts.tell(x, "puts 1;put 0;falls 0;object 0 to 1;take 1;put 1;");
        Texts.tell(x, "put 1;take 1;".repeat(11) + "take 0;take 0;");
        due("the first", x.played(0), 0);
        due("laws count", x.played(1), 4);
        due("what was done stays", x.is(3), 1);
        due("what was done stays", x.of(0, 3), 2);
        due("what follows isn't done", x.of(1, 2), 0);
        due("two steps", x.about(3), 2);
        due("the 24th", x.played(2), 23);
        due("what was done stays", x.is(3), 0);
    }
}
