import java.lang.reflect.InvocationTargetException;
import java.lang.reflect.Method;
import java.lang.reflect.Modifier;
import java.util.ArrayList;
import java.util.Arrays;
import java.util.Comparator;
import java.util.List;
import java.util.Random;

/**
 * Rule 7 of LANGUAGE.md: no call may ever throw, for any arguments in any state. So each method is
 * called with each row of odd numbers on desks of several kinds, and one desk gets far more calls
 * than the document grants, since it may answer then what it likes but not throw. The same calls
 * give the same answers on a second desk (rule 13).
 */
public final class AnyCallTest {
    private static final int[] ODD = {
        -1, 0, 1, 23, 24, 149, 150, 999, 1000, Integer.MAX_VALUE, Integer.MIN_VALUE};
    private static final int[] EDGES = {
        Integer.MIN_VALUE, -65536, -10, -9, -4, -3, -2, -1, 0, 1, 2, 3, 4, 5, 6, 7, 8, 9, 10, 11, 12, 19, 20, 21, 23, 24, 29,
        30, 31, 32, 63, 64, 99, 100, 149, 150, 255, 256, 599, 600, 601, 970, 996, 999, 1000, 1439, 1440, 65536,
        Integer.MAX_VALUE};

    private final Due d = new Due();
    private final List<Method> methods = new ArrayList<>();

    public static void main(String[] args) throws IllegalAccessException {
        AnyCallTest test = new AnyCallTest();
        for (Method m : DutyDesk.class.getDeclaredMethods()) {
            if (Modifier.isPublic(m.getModifiers())) {
                test.methods.add(m);
            }
        }
        test.methods.sort(Comparator.comparing(Method::getName));
        test.oddNumbersInEachPlace(new DutyDesk());
        test.oddNumbersInEachPlace(Desks.busy());
        test.oddNumbersInEachPlace(Desks.fullOfLawyers());
        test.oddNumbersInEachPlace(Desks.fullOfEditions());
        test.oddNumbersInEachPlace(Desks.fullOfCalls());
        for (int seed = 0; seed < 40; seed++) {
            test.longRun(seed);
        }
        test.fullTapes();
        test.d.finish();
    }

    /** Every pair of odd numbers in every two neighbouring places; the other places are all alike. */
    private void oddNumbersInEachPlace(DutyDesk x) throws IllegalAccessException {
        for (Method m : methods) {
            for (int rest : new int[] {0, -1, Integer.MAX_VALUE}) {
                for (int place = 0; place < Math.max(1, m.getParameterCount()); place++) {
                    for (int one : ODD) {
                        for (int other : ODD) {
                            int[] row = new int[m.getParameterCount() + 1];
                            Arrays.fill(row, rest);
                            row[place] = one;
                            row[Math.min(place + 1, row.length - 1)] = other;
                            answer(x, m, row);
                        }
                    }
                }
            }
        }
    }

    private void longRun(int seed) throws IllegalAccessException {
        Random random = new Random(seed);
        DutyDesk x = seed % 2 == 0 ? new DutyDesk() : Desks.busy();
        DutyDesk y = seed % 2 == 0 ? new DutyDesk() : Desks.busy();
        for (int n = 0; n < 6000; n++) {
            Method m = methods.get(random.nextInt(methods.size()));
            int[] row = new int[m.getParameterCount()];
            for (int place = 0; place < row.length; place++) {
                row[place] = anyNumber(random);
            }
            d.due(m.getName() + Arrays.toString(row) + " on a second desk", answer(y, m, row), answer(x, m, row));
        }
    }

    /** All 1000 bytes alike: a token that goes on to the tape's last place, or 1000 of them. */
    private void fullTapes() throws IllegalAccessException {
        for (int b = 0; b < 256; b++) {
            DutyDesk x = new DutyDesk();
            int four = b * 0x01010101;
            for (int n = 0; n < 50; n++) {
                x.feed(four, four, four, four, four);
            }
            answer(x, method("edition"), new int[] {0});
        }
    }

    private Method method(String name) {
        for (Method m : methods) {
            if (m.getName().equals(name)) {
                return m;
            }
        }
        throw new IllegalStateException("no method " + name);
    }

    private static int anyNumber(Random random) {
        switch (random.nextInt(8)) {
            case 0:
                return random.nextInt();
            case 1:
                return EDGES[random.nextInt(EDGES.length)];
            case 2:
                return random.nextInt(1000);
            default:
                return random.nextInt(10);
        }
    }

    private int answer(DutyDesk x, Method m, int[] row) throws IllegalAccessException {
        Class<?>[] types = m.getParameterTypes();
        Object[] arguments = new Object[types.length];
        for (int place = 0; place < types.length; place++) {
            arguments[place] = types[place] == boolean.class ? (Object) (row[place] % 2 == 0) : (Object) row[place];
        }
        try {
            return (Integer) m.invoke(x, arguments);
        } catch (InvocationTargetException thrown) {
            d.holds(m.getName() + Arrays.toString(row) + " throws nothing: " + thrown.getCause(), false);
            return 0;
        }
    }
}
