import java.lang.reflect.InvocationTargetException;
import java.lang.reflect.Method;
import java.util.Arrays;
import java.util.HashMap;
import java.util.Map;
import java.util.Random;

/** Promises 1 to 26: runs of 512 calls with drawn arguments, each answer compared with that of Reference. */
public final class RandomRunsTest {
    private static final int RUNS = 300;
    private static final int CALLS = 512;
    private static final int[] EXTREMES = {Integer.MIN_VALUE, -1, Integer.MAX_VALUE, Integer.MAX_VALUE - 1};

    private static final String[] CHANGES = {"addTariff", "setZone", "setZone", "setPeak", "addAccount", "addLine",
        "addLine", "setTariff", "setBundle", "addCall", "addCall", "addCall", "addCall", "addCall", "correct"};
    private static final String[] QUESTIONS = {"callCount", "callAt", "isPeak", "told", "told", "dearest", "lineSum",
        "daySum", "sum", "total", "left", "emptied", "dayFees", "totalWith", "bestTariff", "freeShare", "digest"};

    private final Checks checks;
    private final Random random;
    private final int run;
    private final Map<String, Method> face = new HashMap<>();
    private final PhoneRater rater = new PhoneRater();
    private final Reference reference = new Reference();
    private final boolean crowded;

    private RandomRunsTest(Checks checks, int run) {
        this.checks = checks;
        this.run = run;
        this.random = new Random(run);
        this.crowded = run % 2 == 0;
        for (Method method : PhoneRater.class.getDeclaredMethods()) {
            face.put(method.getName(), method);
        }
    }

    public static void main(String[] args) throws IllegalAccessException {
        Checks checks = new Checks();
        for (int run = 0; run < RUNS; run++) {
            new RandomRunsTest(checks, run).compare();
        }
        checks.end("RandomRunsTest");
    }

    private void compare() throws IllegalAccessException {
        for (int i = 0; i < CALLS; i++) {
            String[] names = random.nextInt(3) == 0 ? CHANGES : QUESTIONS;
            String name = i < 12 ? CHANGES[random.nextInt(CHANGES.length)] : names[random.nextInt(names.length)];
            int[] a = draw(name);
            String want = reference.answer(name, a);
            String got = answer(name, a);
            checks.isTrue("run " + run + ", call " + i + ": " + name + Arrays.toString(a) + " answered " + got
                    + ", due is " + want, got.equals(want));
        }
    }

    private String answer(String name, int[] a) throws IllegalAccessException {
        Object[] boxed = new Object[a.length];
        for (int i = 0; i < a.length; i++) {
            boxed[i] = a[i];
        }
        try {
            return String.valueOf(face.get(name).invoke(rater, boxed));
        } catch (InvocationTargetException e) {
            RuntimeException thrown = (RuntimeException) e.getCause();
            String by = Checks.isThrownByRater(thrown) ? "" : "the machine ";
            return by + "throws." + thrown.getClass().getSimpleName();
        }
    }

    private int[] draw(String name) {
        switch (name) {
            case "addTariff": return new int[] {money(), money(), money(), in(1, 300), in(1, 300)};
            case "setZone": return new int[] {number(5), in(1, 2), money(), random.nextBoolean() ? 0 : money()};
            case "setPeak": return new int[] {in(0, 800), in(400, 1439)};
            case "addAccount": return new int[] {bundle(), in(0, crowded ? 500 : 1000000), in(0, 100)};
            case "addLine": return new int[] {number(4), number(5)};
            case "setTariff": return new int[] {number(8), number(5)};
            case "setBundle": return new int[] {number(4), bundle()};
            case "addCall": return new int[] {number(8), minute(), seconds(), in(0, 2)};
            case "correct": return new int[] {number(60), random.nextInt(3) == 0 ? 0 : seconds()};
            case "callAt": case "isPeak": return new int[] {number(60)};
            case "told": return new int[] {number(60), in(0, 4)};
            case "lineSum": case "bestTariff": return new int[] {number(8)};
            case "daySum": return new int[] {in(0, crowded ? 2 : 29)};
            case "sum": case "total": case "left": case "emptied": return new int[] {number(4)};
            case "dayFees": return new int[] {number(8), in(1, 2)};
            case "totalWith": return new int[] {number(8), number(5)};
            default: return new int[0];
        }
    }

    /** Mostly least to most, with the ends often among them; now and then just outside, or far. */
    private int in(int least, int most) {
        switch (random.nextInt(40)) {
            case 0: return least;
            case 1: return most;
            case 2: return least - 1;
            case 3: return most + 1;
            case 4: return EXTREMES[random.nextInt(EXTREMES.length)];
            default: return least + random.nextInt(most - least + 1);
        }
    }

    private int number(int most) {
        return random.nextInt(30) == 0 ? in(0, most) : random.nextInt(1 + random.nextInt(most));
    }

    private int money() {
        return random.nextBoolean() ? in(0, 100) : in(0, 10000);
    }

    private int bundle() {
        return random.nextBoolean() ? in(0, 3000) : in(0, 100000);
    }

    private int minute() {
        return crowded ? 1440 * random.nextInt(3) + random.nextInt(8) * 180 : in(0, 43199);
    }

    private int seconds() {
        return random.nextBoolean() ? in(1, 900) : in(1, 7200);
    }
}
