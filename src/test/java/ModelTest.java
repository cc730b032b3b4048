import java.lang.reflect.InvocationTargetException;
import java.lang.reflect.Method;
import java.util.ArrayList;
import java.util.Arrays;
import java.util.List;
import java.util.Random;
import java.util.function.Function;

/** Long random runs of calls, each answer held against the model's. */
public final class ModelTest {
    private static final int RUNS = Integer.getInteger("runs", 1500);
    private static final int CALLS = 512;
    private static final int[] EXTREMES = {Integer.MIN_VALUE, Integer.MAX_VALUE, -1, -2, 8, 9, 255, 256, 257, 300, 1 << 30};

    private record Call(String name, Class<?>[] types, int often, Function<Random, Object[]> arguments) {
        Method in(Class<?> c) {
            try {
                Method m = c.getDeclaredMethod(name, types);
                m.setAccessible(true);
                return m;
            } catch (NoSuchMethodException e) {
                throw new IllegalStateException(e);
            }
        }
    }

    private static final List<Call> CALL_LIST = new ArrayList<>();
    private static int planks = 5;

    private static void call(int often, String name, Function<Random, Object[]> arguments) {
        Object[] sample = arguments.apply(new Random(0));
        Class<?>[] types = new Class<?>[sample.length];
        for (int i = 0; i < types.length; i++) {
            types[i] = sample[i] instanceof Boolean ? boolean.class : int.class;
        }
        CALL_LIST.add(new Call(name, types, often, arguments));
    }

    private static int near(Random r, int below) {
        if (r.nextInt(40) == 0) {
            return EXTREMES[r.nextInt(EXTREMES.length)];
        }
        return r.nextInt(8) == 0 ? r.nextInt(below + 3) - 2 : r.nextInt(below);
    }

    private static int plank(Random r) {
        return near(r, planks);
    }

    private static int set(Random r) {
        return near(r, 1 << planks);
    }

    private static int index(Random r) {
        return r.nextInt(3) == 0 ? -1 : near(r, 4);
    }

    private static int order(Random r) {
        List<Integer> options = new ArrayList<>(List.of(0, 1, 2, 3));
        java.util.Collections.shuffle(options, r);
        if (r.nextInt(10) == 0) {
            options.set(r.nextInt(4), r.nextInt(10));
        }
        int order = 0;
        for (int o : options) {
            order = order * 10 + o;
        }
        return r.nextInt(30) == 0 ? near(r, 9999) : order;
    }

    private static void listCalls() {
        call(6, "by", r -> new Object[] {near(r, 4)});
        call(26, "put", r -> new Object[] {plank(r)});
        call(4, "take", r -> new Object[] {plank(r)});
        call(3, "concede", r -> new Object[] {plank(r)});
        call(14, "object", r -> new Object[] {plank(r), plank(r), r.nextInt(3) != 0});
        call(6, "hour", r -> new Object[] {r.nextInt(4) == 0 ? near(r, 61) : 1 + r.nextInt(2)});
        call(4, "played", r -> new Object[] {near(r, 4)});
        call(3, "years", r -> new Object[] {near(r, 10000), near(r, 41)});
        call(6, "undo", r -> new Object[] {});
        call(14, "of", r -> new Object[] {plank(r), near(r, 7)});
        call(10, "is", r -> new Object[] {near(r, 5)});
        call(8, "book", r -> new Object[] {r.nextInt(5) == 0 ? -1 : near(r, 31), near(r, 4)});
        call(4, "foretold", r -> new Object[] {near(r, 61)});
        call(4, "holds", r -> new Object[] {set(r)});
        call(3, "grounded", r -> new Object[] {});
        call(4, "round", r -> new Object[] {plank(r)});
        call(4, "stables", r -> new Object[] {index(r)});
        call(4, "preferred", r -> new Object[] {index(r)});
        call(4, "naive", r -> new Object[] {index(r)});
        call(4, "ring", r -> new Object[] {plank(r)});
        call(4, "inSets", r -> new Object[] {plank(r), r.nextBoolean()});
        call(2, "repair", r -> new Object[] {plank(r), r.nextBoolean()});
        call(3, "heaviest", r -> new Object[] {r.nextBoolean()});
        call(5, "explain", r -> new Object[] {set(r), index(r)});
        call(2, "orders", r -> new Object[] {set(r)});
        call(3, "order", r -> new Object[] {set(r), near(r, 6)});
        call(2, "all", r -> new Object[] {plank(r)});
        call(2, "over", r -> new Object[] {plank(r)});
        call(2, "high", r -> new Object[] {plank(r)});
        call(3, "least", r -> new Object[] {plank(r)});
        call(5, "stand", r -> new Object[] {set(r), r.nextBoolean()});
        call(5, "vote", r -> new Object[] {r.nextInt(30) == 0 ? -1 : order(r)});
        call(4, "beats", r -> new Object[] {near(r, 4), near(r, 4)});
        call(4, "agenda", r -> new Object[] {order(r)});
        call(2, "lead", r -> new Object[] {near(r, 4)});
        call(3, "winner", r -> new Object[] {near(r, 3)});
        call(3, "score", r -> new Object[] {near(r, 4)});
        call(2, "top", r -> new Object[] {});
        call(4, "said", r -> new Object[] {r.nextInt(3) == 0 ? -1 : plank(r), r.nextInt(2) == 0 ? near(r, 11) : 0});
        call(5, "whose", r -> new Object[] {});
        call(3, "gaps", r -> new Object[] {});
        call(2, "unopposed", r -> new Object[] {});
        call(2, "atOdds", r -> new Object[] {});
        call(3, "loaded", r -> new Object[] {});
        call(3, "ledger", r -> new Object[] {near(r, 4)});
        call(2, "image", r -> new Object[] {});
        call(3, "back", r -> new Object[] {});
        call(6, "about", r -> new Object[] {near(r, 7)});
        call(3, "fault", r -> new Object[] {near(r, 2)});
        call(1, "end", r -> new Object[] {near(r, 30)});
        call(1, "text", r -> new Object[] {});
        call(1, "feed", r -> new Object[] {r.nextInt(), r.nextInt(), 0x20202020, r.nextInt(), r.nextInt()});
        call(5, "plank", r -> new Object[] {near(r, 10), r.nextInt(3) == 0 ? 0 : near(r, 1 << r.nextInt(8))});
    }

    private final ScaffoldReasons x = new ScaffoldReasons();
    private final Model model = new Model();
    private final List<String> told = new ArrayList<>();
    private boolean wrong;

    private static Call named(String name) {
        return CALL_LIST.stream().filter(c -> c.name.equals(name)).findFirst().orElseThrow();
    }

    private static long number(Object answer) {
        return answer instanceof Boolean b ? b ? 1 : 0 : ((Number) answer).longValue();
    }

    private void make(Call call, Object... arguments) throws IllegalAccessException {
        String row = call.name + Arrays.toString(arguments);
        long due;
        try {
            due = number(call.in(Model.class).invoke(model, arguments));
        } catch (InvocationTargetException e) {
            throw new IllegalStateException(row, e.getCause());
        }
        try {
            long got = number(call.in(ScaffoldReasons.class).invoke(x, arguments));
            told.add(row + " = " + got);
            if (got != due) {
                wrong = true;
                told.add("   due is " + due);
            }
        } catch (InvocationTargetException e) {
            wrong = true;
            told.add(row + " threw " + e.getCause());
        }
    }

    private void makeText(Random r) throws IllegalAccessException {
        String text = Texts.random(r);
        make(named("end"), 0);
        for (int[] f : Texts.feeds(text)) {
            make(named("feed"), f[0], f[1], f[2], f[3], f[4]);
        }
        make(named("end"), text.length());
        make(named("text"));
        make(named("fault"), 0);
        make(named("fault"), 1);
        told.add("   (" + text.replace("\n", "\\n") + ")");
    }

    private void run(Random r) throws IllegalAccessException {
        int often = 0;
        for (Call c : CALL_LIST) {
            often += c.often;
        }
        planks = 1 + r.nextInt(8);
        if (r.nextBoolean()) {
            for (int i = 0; i < planks; i++) {
                make(named("plank"), 1 + r.nextInt(9), r.nextInt(1 << i) & r.nextInt(1 << i));
            }
        }
        boolean late = r.nextInt(6) == 0;
        for (int i = 0; late && i < 166; i++) {
            make(named("hour"), 60);
        }
        while (told.size() < CALLS && !wrong) {
            int which = r.nextInt(often + 8);
            if (which >= often) {
                makeText(r);
                continue;
            }
            int at = 0;
            while (which >= CALL_LIST.get(at).often) {
                which -= CALL_LIST.get(at).often;
                at++;
            }
            make(CALL_LIST.get(at), CALL_LIST.get(at).arguments.apply(r));
        }
    }

    public static void main(String[] args) throws IllegalAccessException {
        listCalls();
        int from = Integer.getInteger("from", 0);
        for (int seed = from; seed < from + RUNS; seed++) {
            ModelTest test = new ModelTest();
            test.run(new Random(seed));
            if (test.wrong) {
                System.out.println("run " + seed);
                test.told.forEach(System.out::println);
                System.exit(1);
            }
        }
        System.out.println(RUNS + " runs are as the model has them");
    }
}
