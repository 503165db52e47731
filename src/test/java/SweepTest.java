import java.lang.reflect.InvocationTargetException;
import java.lang.reflect.Method;
import java.util.Arrays;

/**
 * Each method with all numbers at and beside its edges, in every combination, on lines that are empty, small and full:
 * each answer, or what is thrown of several exceptions, beside that of the Model. What throws changes nothing.
 */
public final class SweepTest {
    private static final int LEAST = Integer.MIN_VALUE;
    private static final int GREATEST = Integer.MAX_VALUE;
    private static final int[] TIMES = {LEAST, -1, 0, 1, 333, 1001, 999999, 1000000, 1000001, GREATEST};
    // Far fewer than 512, with those that make the line and look at its digest.
    private static final int CALLS = 100;

    private final int size;
    private SundogLine line;
    private Model model;

    private SweepTest(int size) {
        this.size = size;
    }

    public static void main(String[] args) throws IllegalAccessException {
        for (int size = 0; size < 4; size++) {
            SweepTest sweep = new SweepTest(size);
            sweep.tellStations();
            sweep.tellHalos();
            sweep.askStations();
            sweep.askHalos();
        }
        Check.report();
    }

    private void tellStations() throws IllegalAccessException {
        int[] drifts = {LEAST, -100, -99, 0, 99, 100, GREATEST};
        change("build", new int[] {LEAST, -1, 0, 5, 6, 998, 999, 1000, GREATEST},
                new int[] {LEAST, -601, -600, 0, 600, 601, GREATEST}, drifts);
        int[] ends = {LEAST, -1, 0, 1, 100, 101, 1000000, GREATEST};
        change("cloud", stationNumbers(), ends, ends);
        change("clear", stationNumbers());
        change("correct", stationNumbers(), new int[] {LEAST, -100001, -100000, -1, 0, 1, 100000, 100001, GREATEST});
        change("align", stationNumbers(), TIMES);
    }

    private void tellHalos() throws IllegalAccessException {
        change("addHalo", new int[] {LEAST, -1, 0, 100000, 100001, GREATEST},
                new int[] {LEAST, -1, 0, 999, 1000, GREATEST}, new int[] {LEAST, -1, 0, 1, 99, 100, GREATEST},
                new int[] {LEAST, -2, -1, 0, 1, 2, GREATEST});
    }

    private void askStations() throws IllegalAccessException {
        ask("station", stationNumbers(), new int[] {LEAST, -1, 0, 1, 2, 3, 4, 5, 6, GREATEST});
        ask("clock", stationNumbers(), TIMES);
        ask("blame", stationNumbers());
        ask("advise", stationNumbers());
        ask("wire", stationNumbers(), stationNumbers(), TIMES);
        ask("spread", TIMES);
        ask("count", new int[] {LEAST, -1, 0, 1, 2, 3, 4, 5, GREATEST});
        ask("digest");
    }

    private void askHalos() throws IllegalAccessException {
        ask("comes", haloNumbers(), stationNumbers());
        ask("reading", haloNumbers(), stationNumbers());
        ask("order", haloNumbers(), new int[] {LEAST, -1, 0, 1, 2, 3, 10, 11, 12, GREATEST});
        ask("halo", haloNumbers(), new int[] {LEAST, -1, 0, 1, 2, 3, 4, 5, 6, 7, GREATEST});
        ask("guess", haloNumbers(), stationNumbers());
        ask("error", haloNumbers());
    }

    private int[] stationNumbers() {
        return numbersBeside(new int[] {0, 1, 3, 12}[size]);
    }

    private int[] haloNumbers() {
        return numbersBeside(new int[] {0, 1, 2, 16}[size]);
    }

    private static int[] numbersBeside(int count) {
        int[] numbers = new int[count + 5];
        for (int i = 0; i < count + 3; i++) {
            numbers[i] = i - 1;
        }
        numbers[count + 3] = LEAST;
        numbers[count + 4] = GREATEST;
        return numbers;
    }

    // ---- the lines

    private void makeAnew() {
        line = new SundogLine();
        model = new Model();
        if (size == 1) {
            build(5, 0, 0);
            halo(100, 5, 1, 0);
        } else if (size == 2) {
            build(5, 600, -99);
            build(0, -600, 99);
            build(999, 3, 1);
            cloud(1, 0, 1000000);
            cloud(1, 5, 6);
            halo(0, 6, 7, 0);
            halo(100000, 999, 1, -1);
        } else if (size == 3) {
            makeFull();
        }
    }

    private void makeFull() {
        for (int s = 0; s < 12; s++) {
            int sign = s % 2 == 0 ? 1 : -1;
            build(s < 3 ? 5 + s : 999 - s, 600 * sign, (99 - s) * sign);
            correct(s, s % 3 == 0 ? 100000 * sign : 10 * s);
            for (int c = 0; c < 4; c++) {
                cloud(s, 17000 * c + 500 * s, 17000 * c + 500 * s + 1500);
            }
        }
        for (int h = 0; h < 16; h++) {
            halo(5000 * h, 66 * h, 1 + 6 * h, h % 3 - 1);
        }
    }

    private void build(int place, int offset, int drift) {
        line.build(place, offset, drift);
        model.build(place, offset, drift);
    }

    private void correct(int station, int correction) {
        line.correct(station, correction);
        model.correct(station, correction);
    }

    private void cloud(int station, int from, int to) {
        line.cloud(station, from, to);
        model.cloud(station, from, to);
    }

    private void halo(int begin, int place, int speed, int direction) {
        line.addHalo(begin, place, speed, direction);
        model.addHalo(begin, place, speed, direction);
    }

    // ---- the calls

    /** For methods that change something: each call that is not refused has a new line. */
    private void change(String name, int[]... numbers) throws IllegalAccessException {
        makeAnew();
        int calls = 0;
        for (Object[] arguments : combinations(numbers)) {
            long before = line.digest();
            String answer = compare(name, arguments);
            boolean refused = answer.startsWith("throws.");
            if (refused) {
                Check.same(called(name, arguments) + " is refused: the digest", line.digest(), before);
            } else {
                compare("digest", new Object[0]);
            }
            calls++;
            if (!refused || calls % CALLS == 0) {
                makeAnew();
            }
        }
    }

    private void ask(String name, int[]... numbers) throws IllegalAccessException {
        makeAnew();
        long before = line.digest();
        int calls = 0;
        for (Object[] arguments : combinations(numbers)) {
            compare(name, arguments);
            calls++;
            if (calls % CALLS == 0) {
                Check.same("the digest behind " + called(name, arguments), line.digest(), before);
                makeAnew();
            }
        }
        Check.same("the digest behind " + name, line.digest(), before);
    }

    private static Object[][] combinations(int[][] numbers) {
        int all = 1;
        for (int[] of : numbers) {
            all *= of.length;
        }
        Object[][] combinations = new Object[all][numbers.length];
        for (int c = 0; c < all; c++) {
            int rest = c;
            for (int i = 0; i < numbers.length; i++) {
                combinations[c][i] = numbers[i][rest % numbers[i].length];
                rest /= numbers[i].length;
            }
        }
        return combinations;
    }

    private String compare(String name, Object[] arguments) throws IllegalAccessException {
        String got = answer(line, name, arguments);
        Check.same(called(name, arguments), got, answer(model, name, arguments));
        return got;
    }

    private String called(String name, Object[] arguments) {
        return "size " + size + ": " + name + Arrays.toString(arguments);
    }

    private static String answer(Object asked, String name, Object[] arguments) throws IllegalAccessException {
        try {
            return methodOf(asked, name).invoke(asked, arguments).toString();
        } catch (InvocationTargetException thrown) {
            RuntimeException cause = (RuntimeException) thrown.getCause();
            boolean own = Check.isThrownIn(cause, asked.getClass().getName());
            return (own ? "throws." : "lets through ") + cause.getClass().getSimpleName();
        }
    }

    private static Method methodOf(Object asked, String name) {
        for (Method method : asked.getClass().getDeclaredMethods()) {
            // Those of the face take whole numbers alone; the Model has others of the same name.
            if (method.getName().equals(name) && takesNumbers(method)) {
                return method;
            }
        }
        throw new IllegalArgumentException("no method " + name);
    }

    private static boolean takesNumbers(Method method) {
        for (Class<?> type : method.getParameterTypes()) {
            if (type != int.class) {
                return false;
            }
        }
        return true;
    }
}
