import java.util.Arrays;
import java.util.function.Supplier;

/**
 * The edges of arguments: what is taken at both ends, what is refused just beyond them. Each call is made on a rater of
 * its own, and behind a refusal this rater must answer everything as its twin does, which has not been asked.
 */
final class Edges {
    /** A call of the face; a boolean answer counts 1 or 0. */
    interface Ask {
        double of(PhoneRater rater, int[] a);
    }

    static final Class<? extends RuntimeException> INDEX = IndexOutOfBoundsException.class;
    static final Class<? extends RuntimeException> ARGUMENT = IllegalArgumentException.class;
    static final Class<? extends RuntimeException> STATE = IllegalStateException.class;

    private final Checks checks;
    private final Supplier<PhoneRater> build;
    private final String picture;

    Edges(Checks checks, Supplier<PhoneRater> build) {
        this.checks = checks;
        this.build = build;
        this.picture = pictureOf(build.get());
    }

    /** The argument at this place is taken from least to most, and refused on both sides; the other ones are good. */
    void range(Class<? extends RuntimeException> want, String name, Ask ask, int[] good, int at, int least, int most) {
        if (least <= most) {
            taken(name, ask, with(good, at, least));
            taken(name, ask, with(good, at, most));
        }
        for (int beyond : new int[] {least - 1, most + 1, Integer.MIN_VALUE, Integer.MAX_VALUE}) {
            refused(want, name, ask, with(good, at, beyond));
        }
    }

    void taken(String name, Ask ask, int... a) {
        PhoneRater r = build.get();
        String call = name + Arrays.toString(a);
        try {
            ask.of(r, a);
            checks.isTrue(call + " is taken", true);
        } catch (RuntimeException e) {
            checks.isTrue(call + " threw " + e + ", but is to be taken", false);
        }
    }

    void answers(double want, String name, Ask ask, int... a) {
        PhoneRater r = build.get();
        checks.due(name + Arrays.toString(a), want, () -> ask.of(r, a));
    }

    void refused(Class<? extends RuntimeException> want, String name, Ask ask, int... a) {
        PhoneRater r = build.get();
        String call = name + Arrays.toString(a);
        checks.refused(call, want, r, () -> ask.of(r, a));
        checks.isTrue(call + " was refused, but has changed an answer", pictureOf(r).equals(picture));
    }

    /** A question changes nothing: behind it the rater answers everything as its twin does. */
    void onlyAsks(String name, Ask ask, int... a) {
        PhoneRater r = build.get();
        ask.of(r, a);
        checks.isTrue(name + Arrays.toString(a) + " has changed an answer", pictureOf(r).equals(picture));
    }

    private static int[] with(int[] good, int at, int value) {
        int[] a = good.clone();
        a[at] = value;
        return a;
    }

    static int bit(boolean holds) {
        return holds ? 1 : 0;
    }

    /** What the questions answer, with what callAt and told answer in the checksum, so that 512 calls are enough. */
    static String pictureOf(PhoneRater r) {
        StringBuilder s = new StringBuilder();
        s.append(r.callCount()).append(' ').append(r.dearest()).append(' ').append(r.freeShare());
        s.append(' ').append(r.digest());
        append(s, "isPeak", 60, i -> bit(r.isPeak(i)));
        append(s, "daySum", 30, r::daySum);
        append(s, "sum", 4, r::sum);
        append(s, "total", 4, r::total);
        append(s, "left", 4, r::left);
        append(s, "emptied", 4, r::emptied);
        for (int line = 0; line < 8; line++) {
            int asked = line;
            append(s, "dayFees", 2, i -> r.dayFees(asked, i + 1));
            append(s, "totalWith", 5, i -> r.totalWith(asked, i));
        }
        append(s, "lineSum", 8, r::lineSum);
        append(s, "bestTariff", 8, r::bestTariff);
        return s.toString();
    }

    private interface Question {
        int answer(int index);
    }

    private static void append(StringBuilder s, String name, int many, Question question) {
        s.append('\n').append(name);
        for (int i = 0; i < many; i++) {
            try {
                s.append(' ').append(question.answer(i));
            } catch (IndexOutOfBoundsException e) {
                s.append(" -");
            }
        }
    }
}
