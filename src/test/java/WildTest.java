import java.lang.management.ManagementFactory;
import java.lang.reflect.InvocationTargetException;
import java.lang.reflect.Method;
import java.util.Arrays;
import java.util.Comparator;
import java.util.Random;

/**
 * No call throws, whatever its numbers (each call of the face is made with wild ones and answered by Model, too),
 * and calls make hardly any objects: all of a run live in one room.
 */
public final class WildTest {
    private static final int[] WILD = {Integer.MIN_VALUE, Integer.MIN_VALUE + 1, -1000000, -100, -41, -14, -7, -2, -1,
        0, 0, 0, 1, 1, 1, 2, 2, 2, 3, 3, 4, 5, 6, 7, 8, 9, 10, 11, 12, 13, 16, 39, 40, 41, 59, 60, 99, 100, 159, 160,
        255, 256, 510, 511, 599, 600, 999, 1000, 9999, 10000, 20000, 79999, 99999, 100000, 1000000,
        Integer.MAX_VALUE - 40, Integer.MAX_VALUE - 1, Integer.MAX_VALUE};

    public static void main(String[] args) throws Exception {
        Check check = new Check();
        Method[] calls = Arrays.stream(FlatToLet.class.getDeclaredMethods())
            .filter(m -> java.lang.reflect.Modifier.isPublic(m.getModifiers()))
            .sorted(Comparator.comparing(Method::getName)).toArray(Method[]::new);
        for (int run = 0; run < 300; run++) wild(new Random(run), calls, check);
        allocations(calls, check);
        check.end();
    }

    private static void wild(Random random, Method[] calls, Check check) throws Exception {
        FlatToLet x = new FlatToLet();
        Model m = new Model();
        for (int n = 0; n < 512; n++) {
            Method call = calls[random.nextInt(calls.length)];
            Object[] numbers = new Object[call.getParameterCount()];
            for (int i = 0; i < numbers.length; i++) {
                // Half of all numbers are small, so that now and then all of a call can be.
                numbers[i] = random.nextBoolean() ? random.nextInt(4) : WILD[random.nextInt(WILD.length)];
            }
            String told = call.getName() + Arrays.toString(numbers);
            Method same = Model.class.getDeclaredMethod(call.getName(), call.getParameterTypes());
            try {
                check.due(told, ((Number) call.invoke(x, numbers)).longValue(), ((Number) same.invoke(m, numbers)).longValue());
            } catch (InvocationTargetException thrown) {
                check.that(told + " threw " + thrown.getCause(), false);
                return;
            }
        }
    }

    private static void allocations(Method[] calls, Check check) {
        if (!(ManagementFactory.getThreadMXBean() instanceof com.sun.management.ThreadMXBean bean)) return;
        if (!bean.isThreadAllocatedMemorySupported()) return;
        FlatToLet x = new FlatToLet();
        long id = Thread.currentThread().getId();
        for (int round = 0; round < 2; round++) {
            long ahead = bean.getThreadAllocatedBytes(id);
            everyCall(x);
            long made = bean.getThreadAllocatedBytes(id) - ahead;
            if (round == 1) check.that("bytes made by a round of every call: " + made, made < 1000000);
        }
    }

    private static void everyCall(FlatToLet x) {
        for (int v = 0; v < 8; v++) x.viewer(7 * v, 1000 * v);
        x.sheet(0, 2, 6);
        for (int i = 0; i < 6; i++) x.cell(0, i, i);
        x.sheet(1, 2, 12);
        x.count(0);
        x.hours(3);
        x.room(0, 0, 50);
        x.told(0, 0);
        x.feed(5, 'l', 'i', 'k', 'e', 's');
        x.text();
        x.force(0);
        x.asks(0, 0, 0, 1);
        x.put(0, 0, 500);
        x.one(0, 0);
        x.tour(0, 0, 1, 1);
        x.shown(0, 255, 0);
        x.best(-1, 8, 0);
        x.when(0, 255, 0);
        x.together(0, 0);
        x.without(0, 0, 0);
        x.paint(0, 0, 0);
        x.tenant(0, 0, 0);
        x.waits(0, 6, 1, 0);
        x.film(0, 1, 0);
        x.judge(0, 1, 0);
        x.kinds(0, 1, 0, 0);
        x.riches(0, 1, 0, 0);
        x.rooms(0, 1, 0, 0);
        x.laws(0, 1, 0);
        x.drawn(5, 0, 2);
        x.odds(5, 40, 100, 0);
        x.image();
        x.back();
        x.copy(0, 0, 0, 0, 6);
        x.viewersBy(0, 2, 0, 3);
        x.taken(0, 0);
    }
}
