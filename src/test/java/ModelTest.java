import java.lang.reflect.InvocationTargetException;
import java.lang.reflect.Method;
import java.util.ArrayList;
import java.util.Arrays;
import java.util.List;
import java.util.Random;

/** Long runs of drawn calls: the class answers as the model does, and never throws. */
public final class ModelTest {
    private static final int RUNS = 1500, CALLS = 512;
    private static final String SORTS = "rsbhd";
    private static final int[] ODD =
        {-1, 0, 1, 8, 41, 61, 100, 255, Integer.MAX_VALUE, Integer.MIN_VALUE, -1000000, 1 << 16};

    /** A call, how often it comes, and from where to where each of its numbers goes. */
    private record Call(String name, int weight, int... bounds) { }

    private static final Call[] CALLS_OF = {
        new Call("row", 2, 0, 4, 0, 2, -1, 40), new Call("set", 6, 0, 4, 0, 12, -1, 4),
        new Call("copy", 2, 0, 4, 0, 6, 0, 4, 0, 6, 0, 6), new Call("drop", 1, 0, 4),
        new Call("feed", 1, 0, 255), new Call("circle", 1), new Call("fault", 1), new Call("undo", 6),
        new Call("ticks", 20, 1, 5), new Call("turnHead", 10, 0, 7, 0, 7), new Call("role", 4, 0, 7),
        new Call("proof", 4, 1, 9), new Call("rise", 8, 0, 7), new Call("player", 8, 0, 7, 0, 5),
        new Call("stand", 4, 0, 6), new Call("ahead", 6, 0, 7, 0, 60, 0, 2), new Call("toll", 4, 0, 60, 0, 1),
        new Call("when", 4, 0, 7, 1, 2), new Call("out", 3), new Call("meet", 4, 0, 7, 0, 7),
        new Call("bestRole", 4, 1, 40, 0, 1), new Call("glance", 4, 1, 40, 0, 1), new Call("pass", 4, 1, 40),
        new Call("sets", 4, 0, 12, 0, 2), new Call("share", 4, 0, 7, 0, 999), new Call("byTurns", 2, 0, 3, 1, 20),
        new Call("who", 8, 0, 7, 0, 3, 0, 4, 0, 3, 1, 6), new Call("sleep", 1, 0, 40, 0, 10, 0, 1),
        new Call("drawn", 5, 0, 60, 1, 999999, 0, 1), new Call("image", 2, 0, 1), new Call("restore", 1, 0, 1),
        new Call("kind", 1, 0, 7), new Call("as", 3, 0, 7, 0, 5), new Call("ask", 4, 0, 7, 0, 1),
        new Call("trace", 4, 0, 6), new Call("count", 5, 0, 7), new Call("status", 5)};

    private static final Random random = new Random(20261117);
    private static final Check check = new Check("ModelTest");

    public static void main(String[] args) throws ReflectiveOperationException {
        List<Call> urn = new ArrayList<>();
        for (Call call : CALLS_OF) {
            for (int k = 0; k < call.weight(); k++) {
                urn.add(call);
            }
        }
        for (int run = 0; run < RUNS; run++) {
            play(run, urn);
        }
        check.end();
    }

    private static void play(int run, List<Call> urn) throws ReflectiveOperationException {
        WinkCircle x = new WinkCircle();
        Model model = new Model();
        int calls = run % 10 == 0 ? 0 : tell(run, x, model);
        while (calls < CALLS) {
            int kind = random.nextInt(150);
            if (kind == 0) {
                calls += tell(run, x, model);
            } else if (kind < 4) {
                calls += tellTolls(run, x, model);
            } else {
                Call call = urn.get(random.nextInt(urn.size()));
                calls += same(run, x, model, call.name(), draw(call.bounds()));
            }
        }
    }

    private static Object[] draw(int[] bounds) {
        Object[] numbers = new Object[bounds.length / 2];
        for (int i = 0; i < numbers.length; i++) {
            int least = bounds[2 * i];
            int most = bounds[2 * i + 1];
            int v = least + random.nextInt(most - least + 1);
            int odd = random.nextInt(60);
            numbers[i] = odd == 0 ? ODD[random.nextInt(ODD.length)] : odd == 1 ? least - 1 : odd == 2 ? most + 1 : v;
        }
        return numbers;
    }

    private static int same(int run, WinkCircle x, Model model, String name, Object... numbers)
            throws ReflectiveOperationException {
        Class<?>[] types = new Class<?>[numbers.length];
        Arrays.fill(types, int.class);
        Method own = WinkCircle.class.getMethod(name, types);
        Method other = Model.class.getMethod(name, types);
        other.setAccessible(true);
        String call = "run " + run + ", " + name + Arrays.toString(numbers);
        try {
            Number got = (Number) own.invoke(x, numbers);
            check.due(call, got.longValue(), ((Number) other.invoke(model, numbers)).longValue());
        } catch (InvocationTargetException thrown) {
            check.holds(call + " threw " + thrown.getCause(), false);
        }
        return 1;
    }

    private static int tell(int run, WinkCircle x, Model model) throws ReflectiveOperationException {
        String text = text();
        for (int i = 0; i < text.length(); i++) {
            same(run, x, model, "feed", (int) text.charAt(i));
        }
        same(run, x, model, "circle");
        same(run, x, model, "fault");
        return text.length() + 2;
    }

    private static String text() {
        StringBuilder text = new StringBuilder();
        text.append('w').append(random.nextInt(8)).append(',').append(1 + random.nextInt(9)).append(';');
        int many = 3 + random.nextInt(6);
        for (int p = 0; p < many; p++) {
            int slow = random.nextInt(3) == 0 ? 1 + random.nextInt(9) : 1 + random.nextInt(2);
            text.append(SORTS.charAt(random.nextInt(5))).append(random.nextInt(8)).append(',').append(slow).append(';');
        }
        if (random.nextInt(4) == 0) {
            spoil(text);
        }
        return text.toString();
    }

    private static void spoil(StringBuilder text) {
        String signs = "wrsbhdx0123456789,;,; W\u00ff";
        for (int k = 1 + random.nextInt(2); k > 0; k--) {
            int at = random.nextInt(text.length());
            char sign = signs.charAt(random.nextInt(signs.length()));
            switch (random.nextInt(4)) {
                case 0: text.setCharAt(at, sign); break;
                case 1: text.insert(at, sign); break;
                case 2: text.deleteCharAt(at); break;
                default: text.append("r0,1;r0,1;r0,1;"); break;
            }
        }
    }

    /** Rows of drawn numbers seldom fit, so the tolls to come, at times of another murderer, are told in one. */
    private static int tellTolls(int run, WinkCircle x, Model model) throws ReflectiveOperationException {
        int row = random.nextInt(5);
        int n = 1 + random.nextInt(12);
        int calls = same(run, x, model, "row", row, random.nextInt(3), n);
        boolean other = random.nextBoolean() && x.role(random.nextInt(8)) >= 0;
        int[] tolls = new int[n];
        for (int t = 0; t < n; t++) {
            tolls[t] = Integer.bitCount(Math.max(0, x.toll(t + 1, 0)));
        }
        if (other) {
            x.undo();
            // The model has the same oldest act only if none was forgotten by this detour.
            if (x.count(6) != model.count(6)) {
                return CALLS;
            }
        }
        for (int t = 0; t < n; t++) {
            calls += same(run, x, model, "set", row, t, tolls[t]);
        }
        for (int which = 0; which < 4; which++) {
            calls += same(run, x, model, "who", random.nextInt(8), which, row, 0, n);
        }
        return calls + 2 * n + 2;
    }
}
