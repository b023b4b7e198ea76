import java.lang.reflect.InvocationTargetException;
import java.lang.reflect.Method;
import java.lang.reflect.Modifier;
import java.util.ArrayList;
import java.util.Arrays;
import java.util.Comparator;
import java.util.List;
import java.util.Random;

/**
 * Runs of any calls with any arguments: nothing but what a call's "throws" names ever comes out, by a
 * throw of the class itself and never by the machine, and the same calls always answer the same.
 */
public final class AnyCallsTest {
    private static final int RUNS = 150;
    private static final int[] EDGES = {-1, 3, 4, 7, 8, 9, 12, 16, 24, 31, 50, 60, 100, 128, 255, 256, 1000, 1001, 2000, 4000,
        4001, 20000, Integer.MAX_VALUE, Integer.MIN_VALUE};
    private static final String[] TEXTS = {"s+x*3-y", "a(1,-1)/2+t", "i(x%2,s,255-s)", "m(s,M(x,y))", "((x", "12345678"};

    public static void main(String[] args) throws IllegalAccessException {
        List<Method> calls = new ArrayList<>();
        for (Method method : PictureHouse.class.getDeclaredMethods()) {
            if (Modifier.isPublic(method.getModifiers())) {
                calls.add(method);
            }
        }
        calls.sort(Comparator.comparing(Method::getName));
        int answered = 0;
        for (int run = 0; run < RUNS; run++) {
            answered += runs(calls, run);
        }
        Check.due("many calls are answered", answered > RUNS * 100, true);
        Check.end("AnyCallsTest");
    }

    private static int runs(List<Method> calls, int seed) throws IllegalAccessException {
        Random random = new Random(seed);
        PictureHouse one = new PictureHouse();
        PictureHouse other = new PictureHouse();
        int answered = 0;
        // What started() does is more than one call a turn.
        for (int i = 0; i < House.MOST_CALLS - 60; i++) {
            Method call = calls.get(random.nextInt(calls.size()));
            Object[] arguments = argumentsOf(call, random);
            String name = "run " + seed + ", call " + i + ": " + call.getName() + Arrays.toString(arguments);
            // Films and pictures are needed more often than they come by chance.
            if (i < 40 && i % 2 == 0) {
                started(one, i, new Random(seed + i));
                started(other, i, new Random(seed + i));
                continue;
            }
            String got = answerOf(call, one, arguments, name);
            Check.due(name + " answers the same", got.equals(answerOf(call, other, arguments, name)), true);
            answered += got.startsWith("throws") ? 0 : 1;
        }
        return answered;
    }

    private static void started(PictureHouse house, int i, Random random) {
        switch (i / 2) {
            case 0: case 1: case 2:
                house.blank(8 + 8 * random.nextInt(2), 8, random.nextInt(256), 9, 9);
                break;
            case 3: case 4: case 5: case 6:
                attempt(() -> house.reel(random.nextInt(3)));
                break;
            case 7: case 8: case 9:
                attempt(() -> house.make(random.nextInt(3)));
                break;
            case 10: case 11:
                for (byte b : TEXTS[random.nextInt(TEXTS.length)].getBytes()) {
                    house.feed(b, 1);
                }
                attempt(house::filter);
                break;
            case 12:
                attempt(() -> house.bytes(0));
                break;
            default:
                attempt(() -> house.play(random.nextInt(4), 0, 1 + random.nextInt(60), random.nextInt(60)));
                break;
        }
    }

    /** Whether it can be done is not looked at here. */
    private static void attempt(Check.Deed deed) {
        try {
            deed.run();
        } catch (IllegalArgumentException | IllegalStateException | IndexOutOfBoundsException e) {
            return;
        }
    }

    private static Object[] argumentsOf(Method call, Random random) {
        Class<?>[] types = call.getParameterTypes();
        Object[] arguments = new Object[types.length];
        for (int i = 0; i < types.length; i++) {
            int v = random.nextInt(5) > 0 ? random.nextInt(3) : EDGES[random.nextInt(EDGES.length)];
            if (types[i] == long.class) {
                arguments[i] = random.nextBoolean() ? random.nextLong() : (long) v;
            } else {
                arguments[i] = v;
            }
        }
        return arguments;
    }

    private static String answerOf(Method call, PictureHouse house, Object[] arguments, String name) throws IllegalAccessException {
        try {
            return String.valueOf(call.invoke(house, arguments));
        } catch (InvocationTargetException e) {
            Throwable cause = e.getCause();
            boolean named = Arrays.asList(call.getExceptionTypes()).contains(cause.getClass());
            boolean own = cause.getStackTrace().length > 0 && cause.getStackTrace()[0].getClassName().startsWith("PictureHouse");
            if (!named || !own) {
                System.out.println(cause);
            }
            Check.due(name + " throws what is named", named && own, true);
            return "throws " + cause.getClass().getSimpleName();
        }
    }
}
