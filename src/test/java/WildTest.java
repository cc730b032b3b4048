import java.lang.reflect.InvocationTargetException;
import java.lang.reflect.Method;
import java.lang.reflect.Modifier;
import java.util.Arrays;
import java.util.Comparator;
import java.util.Random;

/** Any call with any numbers, also behind the 512th: none may throw. */
public final class WildTest {
    private static final int OBJECTS = Integer.getInteger("objects", 60);
    private static final int CALLS = 1500;

    private static int wild(Random r) {
        return switch (r.nextInt(6)) {
            case 0 -> r.nextInt();
            case 1 -> (1 << r.nextInt(32)) - r.nextInt(3);
            case 2 -> r.nextInt(310) - 3;
            case 3 -> -1;
            default -> r.nextInt(9);
        };
    }

    private static Object[] arguments(Method method, Random r) {
        Object[] out = new Object[method.getParameterCount()];
        for (int i = 0; i < out.length; i++) {
            out[i] = method.getParameterTypes()[i] == boolean.class ? (Object) r.nextBoolean() : (Object) wild(r);
        }
        return out;
    }

    public static void main(String[] args) throws IllegalAccessException {
        Method[] face = Arrays.stream(ScaffoldReasons.class.getDeclaredMethods())
                .filter(m -> Modifier.isPublic(m.getModifiers()))
                .sorted(Comparator.comparing(Method::getName)).toArray(Method[]::new);
        for (int seed = 0; seed < OBJECTS; seed++) {
            Random r = new Random(seed);
            ScaffoldReasons x = new ScaffoldReasons();
            for (int call = 0; call < CALLS; call++) {
                if (r.nextInt(25) == 0) {
                    Texts.tell(x, Texts.random(r));
                }
                Method method = face[r.nextInt(face.length)];
                Object[] arguments = arguments(method, r);
                try {
                    method.invoke(x, arguments);
                } catch (InvocationTargetException e) {
                    System.out.println("object " + seed + ", call " + call + ": " + method.getName()
                            + Arrays.toString(arguments) + " threw " + e.getCause());
                    System.exit(1);
                }
            }
        }
        System.out.println(OBJECTS + " objects, " + CALLS + " calls each: none threw");
    }
}
