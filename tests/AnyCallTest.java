import java.lang.reflect.InvocationTargetException;
import java.lang.reflect.Method;
import java.lang.reflect.Modifier;
import java.util.Arrays;
import java.util.Comparator;

/**
 * Any call with any arguments in any state, far beyond the 512th call too: what it throws is of a
 * kind that its throws clause names, and thrown by the class itself.
 */
public final class AnyCallTest {
    private static final int RUNS = 300;
    private static final int CALLS = 5000;
    private static final int[] EXTREME = {
        Integer.MIN_VALUE, -100001, -1, 39, 40, 41, 64, 65, 10000, 10001, 100000, 100001,
        Integer.MAX_VALUE - 1, Integer.MAX_VALUE,
    };

    private static long seed = 4711;
    private static int wrong = 0;

    public static void main(String[] args) throws Exception {
        Method[] calls = Arrays.stream(Delaypouch.class.getDeclaredMethods())
                .filter(m -> Modifier.isPublic(m.getModifiers())).toArray(Method[]::new);
        // The order of reflection is free, and the runs are to be the same ones each time.
        Arrays.sort(calls, Comparator.comparing(Method::getName));
        for (int run = 0; run < RUNS && wrong < 20; run++) {
            Delaypouch x = new Delaypouch();
            for (int i = 0; i < CALLS; i++) {
                call(x, calls[below(calls.length)]);
            }
        }
        clockWrapsRound();
        System.out.println(wrong == 0 ? "no call throws by itself" : wrong + " calls do");
        if (wrong != 0) {
            System.exit(1);
        }
    }

    private static int below(int bound) {
        seed = seed * 6364136223846793005L + 1442695040888963407L;
        return (int) ((seed >>> 33) % bound);
    }

    private static void call(Delaypouch x, Method method) throws Exception {
        Object[] values = new Object[method.getParameterCount()];
        for (int i = 0; i < values.length; i++) {
            values[i] = below(15) == 0 ? EXTREME[below(EXTREME.length)] : below(9);
        }
        try {
            method.invoke(x, values);
        } catch (InvocationTargetException e) {
            Throwable thrown = e.getCause();
            boolean named = Arrays.asList(method.getExceptionTypes()).contains(thrown.getClass());
            if (!named || !thrown.getStackTrace()[0].getClassName().startsWith("Delaypouch")) {
                wrong++;
                System.out.println(method.getName() + Arrays.toString(values) + " threw " + thrown);
            }
        }
    }

    private static void clockWrapsRound() throws Exception {
        Delaypouch x = new Delaypouch();
        x.addContact(0, 1, 0, 100000);
        for (int i = 0; i < 450000; i++) {
            x.pass(10000);
            if (i % 20000 == 0) {
                x.send(0, 7, 2, 8, 10000);
                x.meet(0, 1, 20);
                x.arrival(0, 1);
                x.arrivalByRounds(0, 1);
                x.promised(0);
            }
        }
    }
}
