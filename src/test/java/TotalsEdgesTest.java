import java.math.BigInteger;

/** Promises 16 to 26: each sentence that names a boundary case, on both sides of the edge. */
public final class TotalsEdgesTest {
    private static final Checks CHECKS = new Checks();
    private static final Edges EMPTY = new Edges(CHECKS, Raters::empty);
    private static final Edges SOME = new Edges(CHECKS, Raters::some);
    private static final Edges FULL = new Edges(CHECKS, Raters::full);

    private static final Edges.Ask LINE_SUM = (r, a) -> r.lineSum(a[0]);
    private static final Edges.Ask DAY_SUM = (r, a) -> r.daySum(a[0]);
    private static final Edges.Ask SUM = (r, a) -> r.sum(a[0]);
    private static final Edges.Ask TOTAL = (r, a) -> r.total(a[0]);
    private static final Edges.Ask LEFT = (r, a) -> r.left(a[0]);
    private static final Edges.Ask EMPTIED = (r, a) -> r.emptied(a[0]);
    private static final Edges.Ask DAY_FEES = (r, a) -> r.dayFees(a[0], a[1]);
    private static final Edges.Ask TOTAL_WITH = (r, a) -> r.totalWith(a[0], a[1]);
    private static final Edges.Ask BEST_TARIFF = (r, a) -> r.bestTariff(a[0]);

    public static void main(String[] args) {
        promise16Lines();
        promise17Days();
        promise17AllCallsOfTheDay();
        promise18Accounts();
        promise18EmptyAndGreatest();
        promise19Accounts();
        promise19GreatestTotal();
        promise20Accounts();
        promise20FullToEmpty();
        promise21Accounts();
        promise21NothingIsLeft();
        promise21NoneOrNoBundle();
        promise22Ranges();
        promise22NoneToEachDay();
        promise23Ranges();
        promise23SameAndOther();
        promise24Lines();
        promise24LeastTotal();
        promise24SmallestNumber();
        promise25Zero();
        promise25NoneToAllFree();
        promise26WrapsAround();
        promise26Full();
        questionsChangeNothing();
        CHECKS.end("TotalsEdgesTest");
    }

    private static void lines(String name, Edges.Ask ask, int... good) {
        EMPTY.range(Edges.INDEX, name, ask, good, 0, 0, -1);
        SOME.range(Edges.INDEX, name, ask, good, 0, 0, 1);
        FULL.range(Edges.INDEX, name, ask, good, 0, 0, 7);
        Edges noLine = new Edges(CHECKS, TotalsEdgesTest::noLine);
        noLine.range(Edges.INDEX, name, ask, good, 0, 0, -1);
    }

    private static PhoneRater noLine() {
        PhoneRater r = new PhoneRater();
        r.addTariff(0, 0, 0, 1, 1);
        r.addAccount(7, 0, 0);
        return r;
    }

    private static void accounts(String name, Edges.Ask ask) {
        EMPTY.range(Edges.INDEX, name, ask, new int[] {0}, 0, 0, -1);
        SOME.range(Edges.INDEX, name, ask, new int[] {0}, 0, 0, 1);
        FULL.range(Edges.INDEX, name, ask, new int[] {0}, 0, 0, 3);
        Edges noLine = new Edges(CHECKS, TotalsEdgesTest::noLine);
        noLine.range(Edges.INDEX, name, ask, new int[] {0}, 0, 0, 0);
    }

    /** "if there is no such line", "the sum of the prices of its calls" */
    private static void promise16Lines() {
        lines("P16 lineSum", LINE_SUM, 0);
        PhoneRater r = Raters.plain();
        CHECKS.due("P16 no calls", 0, () -> r.lineSum(0));
        r.addCall(0, 0, 1, 0);
        CHECKS.due("P16 one call", 1, () -> r.lineSum(0));
        r.correct(0, 0);
        CHECKS.due("P16 a cancelled call", 0, () -> r.lineSum(0));
        PhoneRater most = sixtyDearCalls();
        CHECKS.due("P16 sixty calls", 75590040, () -> most.lineSum(0));
    }

    /** The greatest sum that there can be: each call is billed as 7499 seconds and costs 10000 and 1249834. */
    private static PhoneRater sixtyDearCalls() {
        PhoneRater r = new PhoneRater();
        r.addTariff(10000, 10000, 10000, 299, 300);
        r.addAccount(0, 0, 0);
        r.addLine(0, 0);
        for (int i = 0; i < 60; i++) {
            r.addCall(0, 0, 7200, 0);
        }
        return r;
    }

    /** "if day is not 0 to 29" */
    private static void promise17Days() {
        for (Edges edges : new Edges[] {EMPTY, SOME, FULL}) {
            edges.range(Edges.INDEX, "P17 daySum", DAY_SUM, new int[] {0}, 0, 0, 29);
        }
        EMPTY.answers(0, "P17 a day of an empty rater", DAY_SUM, 0);
        EMPTY.answers(0, "P17 a day of an empty rater", DAY_SUM, 29);
    }

    /** "the sum of the prices of all calls that begin on it" */
    private static void promise17AllCallsOfTheDay() {
        PhoneRater r = Raters.plain();
        r.addAccount(0, 0, 0);
        r.addLine(1, 0);
        r.addCall(0, 43199, 1, 0);
        r.addCall(1, 41760, 10, 0);
        r.addCall(0, 41759, 100, 0);
        CHECKS.due("P17 the last day, of two accounts", 11, () -> r.daySum(29));
        CHECKS.due("P17 the day before", 100, () -> r.daySum(28));
        r.correct(0, 7200);
        CHECKS.due("P17 a call belongs to the day of its beginning", 7210, () -> r.daySum(29));
        r.correct(2, 7200);
        CHECKS.due("P17 though it ends on the next one", 7200, () -> r.daySum(28));
        CHECKS.due("P17 which has nothing of it", 7210, () -> r.daySum(29));
        r.correct(2, 0);
        CHECKS.due("P17 cancelled", 0, () -> r.daySum(28));
        PhoneRater most = sixtyDearCalls();
        CHECKS.due("P17 sixty calls", 75590040, () -> most.daySum(0));
    }

    /** "if there is no such account" */
    private static void promise18Accounts() {
        accounts("P18 sum", SUM);
    }

    private static void promise18EmptyAndGreatest() {
        PhoneRater r = noLine();
        CHECKS.due("P18 no lines", 0, () -> r.sum(0));
        r.addLine(0, 0);
        CHECKS.due("P18 no calls", 0, () -> r.sum(0));
        PhoneRater most = sixtyDearCalls();
        CHECKS.due("P18 sixty calls", 75590040, () -> most.sum(0));
    }

    /** "if there is no such account", "its total, in cents" */
    private static void promise19Accounts() {
        accounts("P19 total", TOTAL);
        PhoneRater r = noLine();
        CHECKS.due("P19 no lines", 0, () -> r.total(0));
        r.addLine(0, 0);
        CHECKS.due("P19 no calls", 0, () -> r.total(0));
    }

    private static void promise19GreatestTotal() {
        int[][] wants = {{0, 7559004}, {1, 7483414}, {99, 75590}, {100, 0}};
        for (int[] w : wants) {
            PhoneRater r = new PhoneRater();
            r.addTariff(10000, 10000, 10000, 299, 300);
            r.addAccount(0, 0, w[0]);
            r.addLine(0, 0);
            for (int i = 0; i < 60; i++) {
                r.addCall(0, 0, 7200, 0);
            }
            CHECKS.due("P19 the total of 75590040 less " + w[0] + " percent", w[1], () -> r.total(0));
        }
    }

    /** "if there is no such account" */
    private static void promise20Accounts() {
        accounts("P20 left", LEFT);
    }

    /** "how many seconds of its bundle are left behind all calls" */
    private static void promise20FullToEmpty() {
        PhoneRater r = Raters.withBundle(100);
        CHECKS.due("P20 full", 100, () -> r.left(0));
        r.addCall(0, 10, 1, 0);
        CHECKS.due("P20 a second is gone", 99, () -> r.left(0));
        r.addCall(0, 5, 98, 0);
        CHECKS.due("P20 a second is left", 1, () -> r.left(0));
        r.correct(1, 99);
        CHECKS.due("P20 just empty", 0, () -> r.left(0));
        r.correct(1, 100);
        CHECKS.due("P20 a second too much", 0, () -> r.left(0));
        r.correct(1, 7200);
        CHECKS.due("P20 far too much", 0, () -> r.left(0));
        r.setBundle(0, 7201);
        CHECKS.due("P20 just enough", 0, () -> r.left(0));
        r.setBundle(0, 7202);
        CHECKS.due("P20 a second more", 1, () -> r.left(0));
        r.setBundle(0, 0);
        CHECKS.due("P20 no bundle", 0, () -> r.left(0));
    }

    /** "if there is no such account" */
    private static void promise21Accounts() {
        accounts("P21 emptied", EMPTIED);
    }

    /** "the first call (in the order of rating) behind which nothing is left of its bundle" */
    private static void promise21NothingIsLeft() {
        PhoneRater r = Raters.withBundle(100);
        r.addCall(0, 20, 50, 0);
        r.addCall(0, 10, 49, 0);
        CHECKS.due("P21 a second is left", -1, () -> r.emptied(0));
        r.correct(1, 50);
        CHECKS.due("P21 the last second is taken", 0, () -> r.emptied(0));
        r.correct(1, 99);
        CHECKS.due("P21 for the second call a second is left", 0, () -> r.emptied(0));
        r.correct(1, 100);
        CHECKS.due("P21 for the second call none is left", 1, () -> r.emptied(0));
        r.correct(1, 101);
        CHECKS.due("P21 the first call wants a second more", 1, () -> r.emptied(0));
        r.addCall(0, 10, 7200, 0);
        CHECKS.due("P21 of the same beginning the smaller number", 1, () -> r.emptied(0));
        r.addCall(0, 9, 7200, 0);
        CHECKS.due("P21 a minute earlier", 3, () -> r.emptied(0));
        r.addCall(0, 8, 7200, 1);
        CHECKS.due("P21 not a call abroad", 3, () -> r.emptied(0));
    }

    /** "-1 if there is none, or its bundle is 0" */
    private static void promise21NoneOrNoBundle() {
        PhoneRater r = Raters.withBundle(1);
        CHECKS.due("P21 no calls", -1, () -> r.emptied(0));
        r.addCall(0, 0, 1, 1);
        CHECKS.due("P21 only a call abroad", -1, () -> r.emptied(0));
        r.addCall(0, 0, 1, 0);
        CHECKS.due("P21 a bundle of 1", 1, () -> r.emptied(0));
        r.setBundle(0, 2);
        CHECKS.due("P21 a bundle of 2", -1, () -> r.emptied(0));
        r.setBundle(0, 0);
        CHECKS.due("P21 a bundle of 0", -1, () -> r.emptied(0));
        r.setBundle(0, 1);
        r.correct(1, 0);
        CHECKS.due("P21 only a cancelled call", -1, () -> r.emptied(0));
        PhoneRater none = noLine();
        none.setBundle(0, 0);
        CHECKS.due("P21 a bundle of 0 without lines", -1, () -> none.emptied(0));
    }

    /** "if there is no such line, or zone is not 1 or 2" */
    private static void promise22Ranges() {
        lines("P22 dayFees", DAY_FEES, 0, 1);
        lines("P22 dayFees", DAY_FEES, 0, 2);
        SOME.range(Edges.INDEX, "P22 dayFees", DAY_FEES, new int[] {0, 1}, 1, 1, 2);
        FULL.range(Edges.INDEX, "P22 dayFees", DAY_FEES, new int[] {7, 1}, 1, 1, 2);
        SOME.refused(Edges.INDEX, "P22 dayFees", DAY_FEES, 2, 0);
    }

    /** "how many day fees its calls in this zone cost" */
    private static void promise22NoneToEachDay() {
        PhoneRater r = Raters.plain();
        r.setZone(0, 1, 1, 1);
        CHECKS.due("P22 no calls", 0, () -> r.dayFees(0, 1));
        for (int day = 0; day < 30; day++) {
            r.addCall(0, 1440 * day + 1439, 7200, 1);
            CHECKS.due("P22 the days to " + day, day + 1, () -> r.dayFees(0, 1));
            r.addCall(0, 1440 * day, 1, 1);
            CHECKS.due("P22 a second call on day " + day, day + 1, () -> r.dayFees(0, 1));
        }
        CHECKS.due("P22 not in zone 2", 0, () -> r.dayFees(0, 2));
        r.correct(59, 0);
        CHECKS.due("P22 one of the last day's calls is cancelled", 30, () -> r.dayFees(0, 1));
        r.correct(58, 0);
        CHECKS.due("P22 both are cancelled", 29, () -> r.dayFees(0, 1));
        r.setZone(0, 1, 1, 0);
        CHECKS.due("P22 a day fee of 0 is none", 0, () -> r.dayFees(0, 1));
        r.setZone(0, 1, 0, 10000);
        CHECKS.due("P22 the greatest day fee counts once a day, too", 29, () -> r.dayFees(0, 1));
    }

    /** "if there is no such line or tariff" */
    private static void promise23Ranges() {
        lines("P23 totalWith", TOTAL_WITH, 0, 0);
        SOME.range(Edges.INDEX, "P23 totalWith", TOTAL_WITH, new int[] {0, 0}, 1, 0, 1);
        FULL.range(Edges.INDEX, "P23 totalWith", TOTAL_WITH, new int[] {7, 0}, 1, 0, 4);
    }

    /** "what the total of its account would be if the line had this tariff" */
    private static void promise23SameAndOther() {
        for (int line = 0; line < 8; line++) {
            for (int tariff = 0; tariff < 5; tariff++) {
                PhoneRater r = Raters.full();
                int asked = line;
                r.setTariff(line, tariff);
                int want = r.total(line % 4);
                int has = tariff;
                CHECKS.due("P23 the tariff that line " + line + " has", want, () -> r.totalWith(asked, has));
                FULL.answers(want, "P23 totalWith", TOTAL_WITH, line, tariff);
            }
        }
        PhoneRater none = Raters.plain();
        none.addTariff(10000, 10000, 10000, 300, 300);
        CHECKS.due("P23 a line without calls", 0, () -> none.totalWith(0, 1));
    }

    /** "if there is no such line" */
    private static void promise24Lines() {
        lines("P24 bestTariff", BEST_TARIFF, 0);
    }

    private static PhoneRater secondTariffPer(int perMinute, int secondsOfTheCall) {
        PhoneRater r = Raters.plain();
        r.addTariff(0, perMinute, perMinute, 1, 1);
        r.addCall(0, 0, secondsOfTheCall, 0);
        return r;
    }

    /** "the tariff with which the total of its account would be least" */
    private static void promise24LeastTotal() {
        PhoneRater cheaper = secondTariffPer(54, 100);
        CHECKS.due("P24 9 cents against 10", 1, () -> cheaper.bestTariff(0));
        PhoneRater dearer = secondTariffPer(66, 100);
        CHECKS.due("P24 11 cents against 10", 0, () -> dearer.bestTariff(0));
        PhoneRater same = secondTariffPer(57, 100);
        CHECKS.due("P24 95 tenths are 10 cents, too", 0, () -> same.bestTariff(0));
        PhoneRater tenth = secondTariffPer(56, 100);
        CHECKS.due("P24 94 tenths are 9 cents", 1, () -> tenth.bestTariff(0));
        PhoneRater has = secondTariffPer(54, 100);
        has.setTariff(0, 1);
        CHECKS.due("P24 the one that it has is the best", 1, () -> has.bestTariff(0));
        PhoneRater last = Raters.full();
        last.setTariff(0, 4);
        for (int line = 0; line < 8; line++) {
            int asked = line;
            CHECKS.due("P24 the best for line " + line, leastOf(line), () -> last.bestTariff(asked));
        }
    }

    /** Tried out by setTariff, each on a rater of its own. */
    private static int leastOf(int line) {
        int best = -1;
        int least = Integer.MAX_VALUE;
        for (int tariff = 0; tariff < 5; tariff++) {
            PhoneRater r = Raters.full();
            r.setTariff(0, 4);
            r.setTariff(line, tariff);
            int total = r.total(line % 4);
            best = total < least ? tariff : best;
            least = Math.min(least, total);
        }
        return best;
    }

    /** "of several the one with the smallest number" */
    private static void promise24SmallestNumber() {
        PhoneRater one = Raters.plain();
        CHECKS.due("P24 the only tariff", 0, () -> one.bestTariff(0));
        PhoneRater r = Raters.plain();
        for (int tariff = 1; tariff < 5; tariff++) {
            r.addTariff(0, 60, 60, 1, 1);
        }
        r.setTariff(0, 4);
        CHECKS.due("P24 without calls the first of five", 0, () -> r.bestTariff(0));
        r.addCall(0, 0, 100, 0);
        CHECKS.due("P24 the first of five equal ones", 0, () -> r.bestTariff(0));
        PhoneRater late = secondTariffPer(120, 100);
        late.addTariff(0, 30, 30, 1, 1);
        late.addTariff(0, 30, 30, 1, 1);
        CHECKS.due("P24 the first of the two last ones", 2, () -> late.bestTariff(0));
        late.addTariff(0, 24, 24, 1, 1);
        CHECKS.due("P24 the fifth is a cent less", 4, () -> late.bestTariff(0));
    }

    /** "0 if these are 0" */
    private static void promise25Zero() {
        EMPTY.answers(0.0, "P25 freeShare of an empty rater", (r, a) -> r.freeShare());
        PhoneRater r = Raters.withBundle(100000);
        CHECKS.due("P25 no calls", 0.0, r::freeShare);
        r.addCall(0, 0, 1, 0);
        CHECKS.due("P25 a billed second", 1.0, r::freeShare);
        r.correct(0, 0);
        CHECKS.due("P25 only a cancelled call", 0.0, r::freeShare);
        CHECKS.isTrue("P25 this 0 has no sign", Double.doubleToLongBits(r.freeShare()) == 0);
    }

    /** "the free seconds of all calls, divided by their billed seconds" */
    private static void promise25NoneToAllFree() {
        int[] bundles = {0, 1, 2, 3, 4};
        double[] wants = {0.0, 1.0 / 3, 2.0 / 3, 1.0, 1.0};
        for (int i = 0; i < bundles.length; i++) {
            PhoneRater r = Raters.withBundle(bundles[i]);
            r.addCall(0, 0, 3, 0);
            CHECKS.due("P25 3 seconds and a bundle of " + bundles[i], wants[i], r::freeShare);
        }
        PhoneRater most = sixtyDearCalls();
        most.setBundle(0, 100000);
        CHECKS.due("P25 100000 of sixty calls", 100000.0 / 449940.0, most::freeShare);
        most.addTariff(0, 0, 0, 1, 1);
        most.setTariff(0, 1);
        CHECKS.due("P25 of billed seconds, not of all", 100000.0 / 432000.0, most::freeShare);
    }

    /** "which wraps around as a 64-bit integer" */
    private static void promise26WrapsAround() {
        PhoneRater r = new PhoneRater();
        isDigest("of a new object", r, 0, 0, 0, 0, 480, 1079);
        r.addTariff(0, 60, 60, 1, 1);
        r.addAccount(100000, 0, 0);
        CHECKS.isTrue("P26 ten numbers fit", fits(1, 1, 0, 0, 480, 1079, 100000, 0, 0, 100000));
        isDigest("of ten numbers", r, 1, 1, 0, 0, 480, 1079, 100000, 0, 0, 100000);
        r.addLine(0, 0);
        CHECKS.isTrue("P26 twelve numbers do not fit", !fits(1, 1, 1, 0, 480, 1079, 0, 0, 100000, 0, 0, 100000));
        isDigest("of twelve numbers", r, 1, 1, 1, 0, 480, 1079, 0, 0, 100000, 0, 0, 100000);
        r.setBundle(0, 0);
        r.addCall(0, 43199, 7200, 0);
        isDigest("of eighteen numbers", r, 1, 1, 1, 1, 480, 1079, 0, 7200, 0, 7200, 720, 0, 0, 7200, 7200, 0, 7200, 0);
        r.correct(0, 0);
        isDigest("with a cancelled call", r, 1, 1, 1, 1, 480, 1079, 0, 0, 0, 0, 0, 0, 0, 0, 0, 0, 0, 0);
    }

    private static BigInteger unwrapped(int... numbers) {
        BigInteger d = BigInteger.valueOf(193);
        for (int x : numbers) {
            d = d.multiply(BigInteger.valueOf(31)).add(BigInteger.valueOf(x));
        }
        return d;
    }

    private static boolean fits(int... numbers) {
        return unwrapped(numbers).bitLength() < 64;
    }

    private static void isDigest(String what, PhoneRater r, int... numbers) {
        long got = r.digest();
        long want = unwrapped(numbers).longValue();
        CHECKS.isTrue("P26 digest " + what + " answered " + got + ", due is " + want, got == want);
    }

    /** The full rater's checksum, from what the other questions answer. */
    private static void promise26Full() {
        PhoneRater r = Raters.full();
        int[] numbers = new int[6 + 2 * 8 + 4 * 4];
        int[] first = {5, 4, 8, 60, 480, 1079};
        System.arraycopy(first, 0, numbers, 0, 6);
        for (int line = 0; line < 8; line++) {
            numbers[6 + 2 * line] = line % 5;
            numbers[7 + 2 * line] = r.lineSum(line);
        }
        for (int account = 0; account < 4; account++) {
            numbers[22 + 4 * account] = 1000 * account;
            numbers[23 + 4 * account] = r.sum(account);
            numbers[24 + 4 * account] = r.total(account);
            numbers[25 + 4 * account] = r.left(account);
        }
        long want = unwrapped(numbers).longValue();
        for (int i = 0; i < 60; i++) {
            int call = r.callAt(i);
            want = want * 31 + call;
            for (int what = 0; what < 5; what++) {
                want = want * 31 + r.told(call, what);
            }
        }
        long got = r.digest();
        CHECKS.isTrue("P26 digest of a full rater answered " + got + ", due is " + want, got == want);
    }

    private static void questionsChangeNothing() {
        for (int line = 0; line < 8; line++) {
            FULL.onlyAsks("P16 lineSum", LINE_SUM, line);
            FULL.onlyAsks("P22 dayFees", DAY_FEES, line, 1 + line % 2);
            FULL.onlyAsks("P24 bestTariff", BEST_TARIFF, line);
            for (int tariff = 0; tariff < 5; tariff++) {
                FULL.onlyAsks("P23 totalWith", TOTAL_WITH, line, tariff);
            }
        }
        for (int account = 0; account < 4; account++) {
            FULL.onlyAsks("P18 sum", SUM, account);
            FULL.onlyAsks("P19 total", TOTAL, account);
            FULL.onlyAsks("P20 left", LEFT, account);
            FULL.onlyAsks("P21 emptied", EMPTIED, account);
        }
        FULL.onlyAsks("P25 freeShare", (r, a) -> r.freeShare());
        FULL.onlyAsks("P26 digest", (r, a) -> (double) r.digest());
    }
}
