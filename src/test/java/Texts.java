import java.util.Random;

/** Makes texts: feeds them to an object, and writes random ones, right or nearly so. */
final class Texts {
    private Texts() { }

    /** The five numbers of each feed that a text needs, the last filled up with zeros. */
    static int[][] feeds(String text) {
        int[][] out = new int[(text.length() + 19) / 20][5];
        for (int i = 0; i < text.length(); i++) {
            out[i / 20][i / 4 % 5] |= (text.charAt(i) & 255) << 24 - i % 4 * 8;
        }
        return out;
    }

    static void feed(ScaffoldReasons x, String text) {
        x.end(0);
        for (int[] f : feeds(text)) {
            x.feed(f[0], f[1], f[2], f[3], f[4]);
        }
        x.end(text.length());
    }

    static int tell(ScaffoldReasons x, String text) {
        feed(x, text);
        return x.text();
    }

    private static String pick(Random r, String... words) {
        return words[r.nextInt(words.length)];
    }

    private static String blank(Random r) {
        return pick(r, "", " ", " ", " ", "\n", "  ");
    }

    private static String number(Random r) {
        return switch (r.nextInt(12)) {
            case 0 -> "9999";
            case 1 -> Integer.toString(r.nextInt(10000));
            case 2 -> Integer.toString(r.nextInt(100));
            case 3 -> "00" + r.nextInt(20);
            default -> Integer.toString(r.nextInt(12));
        };
    }

    private static String name(Random r, String law) {
        String own = law.equals("puts") ? "rests" : "load";
        if (r.nextInt(60) == 0) {
            own = law.equals("puts") ? "load" : "rests";
        }
        return pick(r, "hour", "wind", "number", "weight", "up", "against", own);
    }

    static String sum(Random r, String law, int room) {
        StringBuilder b = new StringBuilder(product(r, law, room));
        for (int i = r.nextInt(5) - 2; i > 0; i--) {
            b.append(blank(r)).append(pick(r, "+", "-")).append(blank(r)).append(product(r, law, room - 2));
        }
        return b.toString();
    }

    private static String product(Random r, String law, int room) {
        StringBuilder b = new StringBuilder(one(r, law, room));
        for (int i = r.nextInt(6) - 4; i > 0; i--) {
            b.append(blank(r)).append(pick(r, "*", "/", "*", "/")).append(blank(r)).append(one(r, law, room - 2));
        }
        return b.toString();
    }

    private static String one(Random r, String law, int room) {
        if (room <= 0) {
            return r.nextBoolean() ? number(r) : name(r, law);
        }
        return switch (r.nextInt(12)) {
            case 0, 1, 2 -> number(r);
            case 3, 4, 5 -> name(r, law);
            case 6 -> "(" + blank(r) + sum(r, law, room - 1) + ")";
            case 7 -> "-" + blank(r) + one(r, law, room - 1);
            case 8 -> "bits " + one(r, law, room - 1) + " of " + one(r, law, room - 1);
            case 9 -> "heavy " + one(r, law, room - 1);
            default -> "if " + either(r, law, room - 1) + " then " + sum(r, law, room - 2)
                    + " else " + sum(r, law, room - 2) + " end";
        };
    }

    private static String either(Random r, String law, int room) {
        String out = ask(r, law, room);
        while (r.nextInt(4) == 0) {
            out += pick(r, " or ", " and ") + ask(r, law, room - 2);
        }
        return out;
    }

    private static String ask(Random r, String law, int room) {
        if (room > 0 && r.nextInt(4) == 0) {
            return "not " + ask(r, law, room - 1);
        }
        return sum(r, law, room - 1) + blank(r) + pick(r, "<", "<=", ">", ">=", "=", "#") + blank(r) + sum(r, law, room - 1);
    }

    private static String move(Random r) {
        int p = r.nextInt(r.nextInt(20) == 0 ? 9 : 5);
        int q = r.nextInt(r.nextInt(20) == 0 ? 9 : 5);
        return switch (r.nextInt(10)) {
            case 0, 1 -> "plank " + (1 + r.nextInt(r.nextInt(9) == 0 ? 10 : 9)) + " on " + (r.nextBoolean() ? 9 : q);
            case 2, 3, 4 -> "put " + p;
            case 5 -> "take " + p;
            case 6 -> "concede " + p;
            case 7 -> "object " + p + " to " + q;
            case 8 -> "drop " + p + " to " + q;
            default -> "hour " + (1 + r.nextInt(r.nextInt(5) == 0 ? 61 : 4));
        };
    }

    /** A text, mostly faultless. */
    static String random(Random r) {
        StringBuilder b = new StringBuilder();
        int clauses = r.nextInt(12) == 0 ? 20 + r.nextInt(8) : r.nextInt(10);
        boolean puts = r.nextInt(3) != 0;
        boolean falls = r.nextInt(3) != 0;
        for (int i = 0; i < clauses; i++) {
            if (puts && r.nextInt(2) == 0) {
                b.append("puts ").append(sum(r, "puts", r.nextInt(10))).append(blank(r)).append(";");
                puts = r.nextInt(25) == 0;
            } else if (falls && r.nextInt(2) == 0) {
                b.append("falls ").append(sum(r, "falls", r.nextInt(10))).append(blank(r)).append(";");
                falls = r.nextInt(25) == 0;
            } else {
                b.append(move(r)).append(blank(r)).append(";").append(blank(r));
            }
        }
        if (r.nextInt(3) == 0) {
            spoil(r, b);
        }
        if (b.length() > 300) {
            b.setLength(300);
        }
        return b.toString();
    }

    private static void spoil(Random r, StringBuilder b) {
        int at = r.nextInt(b.length() + 1);
        switch (r.nextInt(6)) {
            case 0 -> b.setLength(at);
            case 1 -> b.insert(at, pick(r, " puts ", " falls ", " end ", " then ", ";", " of ", " not ", " and ", " or ", "<", "=", "#", "("));
            case 2 -> b.insert(at, pick(r, "0", "9", "12345", "x", "Z", ")", "$", "\t", "\u0000", "\u00e9", "-", "*", "/"));
            case 3 -> {
                if (at < b.length()) {
                    b.deleteCharAt(at);
                }
            }
            case 4 -> b.insert(at, pick(r, "(((((((((", "---------", "not not not not not not not not not ", "heavy heavy heavy heavy "));
            default -> b.insert(at, pick(r, " hour ", " load ", " rests ", " if ", " else ", " bits ", " to ", " on "));
        }
    }
}
