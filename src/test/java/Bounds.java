import java.lang.reflect.InvocationTargetException;
import java.lang.reflect.Method;
import java.lang.reflect.Modifier;
import java.util.ArrayList;
import java.util.Arrays;
import java.util.Comparator;
import java.util.List;

/** What the tests of single sentences of the document have in common. */
abstract class Bounds {
    static final int NONE = ScaffoldReasons.NONE;
    static final int MIN = Integer.MIN_VALUE;
    static final int MAX = Integer.MAX_VALUE;
    /** The number of what stands ahead of the first promise. */
    static final int TERMS = 0;

    /** A sentence, or a part of one, that has a test: the promise that it stands under, and its words. */
    record Tested(int promise, String words) { }

    private static final List<Tested> TESTED = new ArrayList<>();
    private static int asked;
    private static int wrong;

    Bounds() { }

    static List<Tested> tested() {
        return TESTED;
    }

    static int asked() {
        return asked;
    }

    static int wrong() {
        return wrong;
    }

    /** Every test says first, and once, for which words of the document it is. */
    static void sentence(int promise, String words) {
        TESTED.add(new Tested(promise, words));
    }

    static void complain(String what) {
        wrong++;
        System.out.println(what);
    }

    static void due(String what, long got, long want) {
        asked++;
        if (got != want) {
            Tested of = TESTED.get(TESTED.size() - 1);
            complain((of.promise == TERMS ? "terms" : "promise " + of.promise) + ", \"" + of.words + "\": "
                    + what + " answered " + got + ", due is " + want);
        }
    }

    static void due(String what, boolean got, boolean want) {
        due(what, got ? 1 : 0, want ? 1 : 0);
    }

    /** Runs every test of a class: each method that isn't private. */
    static void runAll(Class<?> tests) {
        Method[] methods = tests.getDeclaredMethods();
        Arrays.sort(methods, Comparator.comparing(Method::getName));
        for (Method method : methods) {
            if (!Modifier.isPrivate(method.getModifiers())) {
                runOne(method);
            }
        }
    }

    private static void runOne(Method method) {
        int sentences = TESTED.size();
        int askedBefore = asked;
        try {
            method.invoke(null);
        } catch (InvocationTargetException e) {
            complain(method.getName() + " threw " + e.getCause());
        } catch (IllegalAccessException e) {
            complain(method.getName() + " can't be called");
        }
        if (TESTED.size() != sentences + 1 || asked == askedBefore) {
            complain(method.getName() + " is not the test of one sentence");
        }
    }

    /** So many planks of weight 5 that rest on none. */
    static ScaffoldReasons free(int planks) {
        ScaffoldReasons x = new ScaffoldReasons();
        for (int i = 0; i < planks; i++) {
            x.plank(5, 0);
        }
        return x;
    }

    /** Plank 1 on 0, 2 on none, 3 on 1 and 2; weights 5, 2, 3, 1. */
    static ScaffoldReasons house() {
        ScaffoldReasons x = new ScaffoldReasons();
        x.plank(5, 0);
        x.plank(2, 1);
        x.plank(3, 0);
        x.plank(1, 6);
        return x;
    }

    static ScaffoldReasons up(ScaffoldReasons x, int... planks) {
        for (int p : planks) {
            due("put " + p, x.put(p), true);
        }
        return x;
    }

    /** Each number is ten times the one that objects and the other one. */
    static ScaffoldReasons objecting(ScaffoldReasons x, int... tens) {
        for (int t : tens) {
            due("object " + t, x.object(t / 10, t % 10, true), true);
        }
        return x;
    }

    static ScaffoldReasons voted(int... orders) {
        ScaffoldReasons x = new ScaffoldReasons();
        for (int o : orders) {
            x.vote(o);
        }
        return x;
    }

    /** By a text that is told and rules at once. */
    static ScaffoldReasons ruled(ScaffoldReasons x, String text) {
        due("by " + text, x.by(Texts.tell(x, text)), true);
        return x;
    }

    /** A new object at an HOUR, X and WIND being what they come to without planks. */
    static ScaffoldReasons at(int hour) {
        ScaffoldReasons x = new ScaffoldReasons();
        for (int i = 0; i < hour / 60; i++) {
            x.hour(60);
        }
        if (hour % 60 > 0) {
            x.hour(hour % 60);
        }
        due("HOUR", x.is(0), hour);
        return x;
    }

    /** What puts says of plank 0 (weight 4) beside plank 1 (weight 7). */
    static void puts(String sum, int want) {
        ScaffoldReasons x = new ScaffoldReasons();
        x.plank(4, 0);
        x.plank(7, 1);
        due("puts " + sum, ruled(x, "puts " + sum + ";").of(0, 5), want);
    }

    static void fine(String text) {
        faulty(text, 0, NONE);
    }

    static void faulty(String text, int fault, int place) {
        ScaffoldReasons x = new ScaffoldReasons();
        due("text " + text, Texts.tell(x, text), fault == 0 ? 0 : NONE);
        due("fault of " + text, x.fault(0), fault);
        due("place of " + text, x.fault(1), place);
    }

    /** What can be seen of an object in some 60 calls. */
    static List<Integer> seen(ScaffoldReasons x) {
        List<Integer> out = new ArrayList<>();
        for (int i = 0; i < 5; i++) {
            out.add(x.is(i));
        }
        for (int i = 0; i < 7; i++) {
            out.add(x.about(i));
        }
        for (int i = 0; i < 4; i++) {
            out.add(x.book(x.book(NONE, 0) - 1, i));
            out.add(x.beats(i, (i + 1) % 4));
        }
        for (int i = 0; i < x.about(0); i++) {
            for (int what = 0; what < 5; what++) {
                out.add(x.of(i, what));
            }
        }
        out.add(x.book(NONE, 0));
        out.add(x.whose());
        out.add(x.fault(0));
        out.add(x.fault(1));
        return out;
    }

    static void same(String what, List<Integer> now, List<Integer> before) {
        due(what + ": all is as it was", now.equals(before), true);
    }
}
