/** Promises 9 to 15: calls, their order, and how they are rated. */
public final class CallsTest {
    private static final Checks CHECKS = new Checks();

    public static void main(String[] args) {
        promise09AddCall();
        promise09WrongCalls();
        promise09MostCalls();
        promise10Correct();
        promise11CallCount();
        promise12CallAt();
        promise13IsPeak();
        promise14BilledSeconds();
        promise14Home();
        promise14Abroad();
        promise14DaysAndLinesAbroad();
        promise14Prices();
        promise14WrongIndexes();
        promise15Dearest();
        CHECKS.end("CallsTest");
    }

    /** Two lines of one account; tariff 0: 5 a connection, 60 in the peak, 30 outside, a day fee of 100 in zone 1. */
    private static PhoneRater twoLines(int bundle) {
        PhoneRater r = new PhoneRater();
        r.addTariff(5, 60, 30, 1, 1);
        r.setZone(0, 1, 120, 100);
        r.setZone(0, 2, 240, 0);
        r.addAccount(bundle, 1000000, 0);
        r.addLine(0, 0);
        r.addLine(0, 0);
        return r;
    }

    private static void rated(PhoneRater r, int call, int seconds, int billed, int free, int price, int dayFee) {
        int[] want = {seconds, billed, free, price, dayFee};
        for (int what = 0; what < want.length; what++) {
            int asked = what;
            CHECKS.due("P14 told(" + call + ", " + what + ")", want[what], () -> r.told(call, asked));
        }
    }

    private static void promise09AddCall() {
        PhoneRater r = twoLines(0);
        CHECKS.due("P9 first call, the least of all", 0, () -> r.addCall(0, 0, 1, 0));
        CHECKS.due("P9 second call, the greatest of all", 1, () -> r.addCall(1, 43199, 7200, 2));
        CHECKS.due("P9 third call", 2, () -> r.addCall(1, 480, 60, 1));
        CHECKS.due("P9 the seconds", 7200, () -> r.told(1, 0));
        CHECKS.due("P9 the line", 6, () -> r.lineSum(0));
        CHECKS.due("P9 the beginning", 1, () -> r.callAt(2));
        CHECKS.due("P9 the zone", 100, () -> r.told(2, 4));
    }

    private static void promise09WrongCalls() {
        PhoneRater r = twoLines(0);
        CHECKS.refusedIndex("P9 line -1", r, () -> r.addCall(-1, 0, 1, 0));
        CHECKS.refusedIndex("P9 line 2 of 2", r, () -> r.addCall(2, 0, 1, 0));
        CHECKS.refusedIndex("P9 no line and a wrong beginning", r, () -> r.addCall(2, -1, 0, 3));
        CHECKS.refusedArgument("P9 beginning -1", r, () -> r.addCall(0, -1, 1, 0));
        CHECKS.refusedArgument("P9 beginning 43200", r, () -> r.addCall(0, 43200, 1, 0));
        CHECKS.refusedArgument("P9 0 seconds", r, () -> r.addCall(0, 0, 0, 0));
        CHECKS.refusedArgument("P9 7201 seconds", r, () -> r.addCall(0, 0, 7201, 0));
        CHECKS.refusedArgument("P9 zone -1", r, () -> r.addCall(0, 0, 1, -1));
        CHECKS.refusedArgument("P9 zone 3", r, () -> r.addCall(0, 0, 1, 3));
        CHECKS.due("P9 the refused ones are not counted", 0, () -> r.addCall(0, 0, 1, 0));
    }

    private static void promise09MostCalls() {
        PhoneRater r = twoLines(0);
        for (int i = 0; i < 60; i++) {
            int number = i;
            CHECKS.due("P9 call " + i, i, () -> r.addCall(number % 2, 1000 - number, 1 + number, number % 3));
        }
        CHECKS.refusedState("P9 call 61", r, () -> r.addCall(0, 0, 1, 0));
        CHECKS.refusedArgument("P9 call 61, and wrong", r, () -> r.addCall(0, 0, 0, 0));
        CHECKS.refusedIndex("P9 call 61, of no line", r, () -> r.addCall(2, 0, 1, 0));
        r.correct(0, 0);
        CHECKS.refusedState("P9 a cancelled call makes no room", r, () -> r.addCall(0, 0, 1, 0));
        CHECKS.due("P9 the last call is rated first", 59, () -> r.callAt(0));
    }

    private static void promise10Correct() {
        PhoneRater r = twoLines(100);
        r.addCall(0, 10, 80, 0);
        r.addCall(1, 20, 80, 0);
        CHECKS.due("P10 the seconds before", 80, () -> r.correct(0, 90));
        CHECKS.due("P10 the seconds now", 90, () -> r.told(0, 0));
        CHECKS.due("P10 a later call is rated anew", 10, () -> r.told(1, 2));
        CHECKS.due("P10 cancelling", 90, () -> r.correct(0, 0));
        rated(r, 0, 0, 0, 0, 0, 0);
        rated(r, 1, 80, 80, 80, 0, 0);
        CHECKS.due("P10 the seconds before are 0", 0, () -> r.correct(0, 7200));
        CHECKS.due("P10 a cancelled call comes back", 7200, () -> r.told(0, 1));
        CHECKS.refusedIndex("P10 call -1", r, () -> r.correct(-1, 1));
        CHECKS.refusedIndex("P10 call 2 of 2", r, () -> r.correct(2, 1));
        CHECKS.refusedIndex("P10 no call and wrong seconds", r, () -> r.correct(2, -1));
        CHECKS.refusedArgument("P10 -1 seconds", r, () -> r.correct(0, -1));
        CHECKS.refusedArgument("P10 7201 seconds", r, () -> r.correct(0, 7201));
        CHECKS.due("P10 the refused ones have changed nothing", 7200, () -> r.correct(0, 1));
    }

    private static void promise11CallCount() {
        PhoneRater r = twoLines(0);
        CHECKS.due("P11 no calls", 0, r::callCount);
        r.addCall(0, 0, 1, 0);
        r.addCall(0, 0, 1, 0);
        CHECKS.due("P11 two calls", 2, r::callCount);
        r.correct(0, 0);
        CHECKS.due("P11 a cancelled call counts", 2, r::callCount);
    }

    private static void promise12CallAt() {
        PhoneRater r = twoLines(0);
        CHECKS.refusedIndex("P12 no calls", r, () -> r.callAt(0));
        r.addCall(0, 700, 1, 0);
        r.addCall(1, 699, 1, 1);
        r.addCall(0, 700, 1, 2);
        r.addCall(1, 43199, 1, 0);
        r.addCall(1, 700, 1, 0);
        r.addCall(1, 0, 1, 0);
        r.correct(2, 0);
        int[] want = {5, 1, 0, 2, 4, 3};
        for (int i = 0; i < want.length; i++) {
            int index = i;
            CHECKS.due("P12 callAt(" + i + ")", want[i], () -> r.callAt(index));
        }
        CHECKS.refusedIndex("P12 index -1", r, () -> r.callAt(-1));
        CHECKS.refusedIndex("P12 index 6 of 6", r, () -> r.callAt(6));
    }

    private static void promise13IsPeak() {
        PhoneRater r = twoLines(0);
        int[] minutes = {479, 480, 1079, 1080, 4 * 1440 + 600, 5 * 1440 + 600, 6 * 1440 + 600, 7 * 1440 + 600,
            26 * 1440 + 480, 27 * 1440 + 480, 28 * 1440 + 480, 29 * 1440 + 1079};
        int[] want = {0, 1, 1, 0, 1, 0, 0, 1, 0, 0, 1, 1};
        for (int i = 0; i < minutes.length; i++) {
            int call = i;
            r.addCall(i % 2, minutes[i], 60, i % 3);
            CHECKS.due("P13 isPeak at minute " + minutes[i], want[i], () -> bit(r.isPeak(call)));
        }
        r.correct(1, 0);
        CHECKS.due("P13 a cancelled call has its time", 1, () -> bit(r.isPeak(1)));
        CHECKS.refusedIndex("P13 call -1", r, () -> bit(r.isPeak(-1)));
        CHECKS.refusedIndex("P13 call 12 of 12", r, () -> bit(r.isPeak(12)));
    }

    private static void promise14BilledSeconds() {
        PhoneRater r = new PhoneRater();
        r.addTariff(0, 0, 0, 60, 10);
        r.addTariff(0, 0, 0, 300, 300);
        r.addTariff(0, 0, 0, 1, 1);
        r.addAccount(0, 0, 0);
        r.addLine(0, 0);
        int[][] wants = {
            {0, 1, 60}, {0, 59, 60}, {0, 60, 60}, {0, 61, 70}, {0, 70, 70}, {0, 71, 80}, {0, 7200, 7200},
            {1, 1, 300}, {1, 300, 300}, {1, 301, 600}, {1, 7199, 7200}, {1, 7200, 7200},
            {2, 1, 1}, {2, 2, 2}, {2, 7200, 7200},
        };
        r.addCall(0, 0, 1, 0);
        for (int[] w : wants) {
            r.setTariff(0, w[0]);
            r.correct(0, w[1]);
            CHECKS.due("P14 billed of " + w[1] + " seconds with tariff " + w[0], w[2], () -> r.told(0, 1));
        }
    }

    private static void promise14Home() {
        PhoneRater r = twoLines(100);
        r.addCall(0, 600, 40, 0);
        r.addCall(1, 500, 70, 0);
        r.addCall(0, 500, 10, 0);
        r.addCall(0, 1, 99, 1);
        rated(r, 3, 99, 99, 99, 100, 100);
        rated(r, 1, 70, 70, 70, 0, 0);
        rated(r, 2, 10, 10, 10, 0, 0);
        rated(r, 0, 40, 40, 20, 5 + 20, 0);
        r.addCall(1, 2000, 7, 0);
        rated(r, 4, 7, 7, 0, 5 + 7, 0);
        r.addCall(1, 2900, 7, 0);
        rated(r, 5, 7, 7, 0, 5 + 4, 0);
    }

    private static void promise14Abroad() {
        PhoneRater r = twoLines(5000);
        r.addCall(0, 1440, 1000, 1);
        r.addCall(0, 1500, 800, 1);
        r.addCall(0, 1500, 1, 1);
        rated(r, 0, 1000, 1000, 1000, 100, 100);
        rated(r, 1, 800, 800, 800, 0, 0);
        rated(r, 2, 1, 1, 0, 5 + 2, 0);
        r.addCall(0, 1499, 900, 1);
        rated(r, 3, 900, 900, 800, 5 + 200, 0);
        rated(r, 1, 800, 800, 0, 5 + 1600, 0);
        r.correct(0, 0);
        rated(r, 0, 0, 0, 0, 0, 0);
        rated(r, 3, 900, 900, 900, 100, 100);
        rated(r, 1, 800, 800, 800, 0, 0);
        r.addCall(0, 1441, 60, 2);
        rated(r, 4, 60, 60, 0, 5 + 240, 0);
        CHECKS.due("P14 calls abroad take nothing from the bundle", 5000, () -> r.left(0));
        r.addCall(1, 1500, 2000, 1);
        rated(r, 5, 2000, 2000, 1800, 100 + 5 + 400, 100);
    }

    private static void promise14DaysAndLinesAbroad() {
        PhoneRater r = twoLines(0);
        r.setZone(0, 2, 240, 50);
        r.addCall(0, 2879, 7200, 1);
        r.addCall(0, 2880, 1800, 1);
        r.addCall(1, 2879, 1800, 1);
        r.addCall(0, 2879, 1800, 2);
        r.addCall(0, 2881, 1801, 2);
        rated(r, 0, 7200, 7200, 1800, 100 + 5 + 10800, 100);
        rated(r, 1, 1800, 1800, 1800, 100, 100);
        rated(r, 2, 1800, 1800, 1800, 100, 100);
        rated(r, 3, 1800, 1800, 1800, 50, 50);
        rated(r, 4, 1801, 1801, 1800, 50 + 5 + 4, 50);
    }

    private static void promise14Prices() {
        PhoneRater r = new PhoneRater();
        r.addTariff(9, 7, 1, 1, 1);
        r.addTariff(9, 0, 0, 1, 1);
        r.addAccount(0, 0, 0);
        r.addLine(0, 0);
        r.addCall(0, 480, 60, 0);
        CHECKS.due("P14 a whole minute", 16, () -> r.told(0, 3));
        r.correct(0, 61);
        CHECKS.due("P14 rounded up by a second", 17, () -> r.told(0, 3));
        r.correct(0, 1);
        CHECKS.due("P14 7 sixtieths are rounded up", 10, () -> r.told(0, 3));
        r.setBundle(0, 1);
        CHECKS.due("P14 no connection fee where all is free", 0, () -> r.told(0, 3));
        r.setBundle(0, 0);
        r.setTariff(0, 1);
        CHECKS.due("P14 a connection fee with a rate of 0", 9, () -> r.told(0, 3));
    }

    private static void promise14WrongIndexes() {
        PhoneRater r = twoLines(0);
        CHECKS.refusedIndex("P14 no calls", r, () -> r.told(0, 0));
        r.addCall(0, 0, 1, 0);
        CHECKS.refusedIndex("P14 call -1", r, () -> r.told(-1, 0));
        CHECKS.refusedIndex("P14 call 1 of 1", r, () -> r.told(1, 0));
        CHECKS.refusedIndex("P14 what -1", r, () -> r.told(0, -1));
        CHECKS.refusedIndex("P14 what 5", r, () -> r.told(0, 5));
    }

    private static void promise15Dearest() {
        PhoneRater r = twoLines(0);
        CHECKS.due("P15 no calls", -1, r::dearest);
        r.addCall(0, 900, 60, 0);
        CHECKS.due("P15 one call", 0, r::dearest);
        r.addCall(0, 800, 60, 0);
        CHECKS.due("P15 of two with the same price the one rated first", 1, r::dearest);
        r.addCall(0, 800, 60, 0);
        CHECKS.due("P15 of two with the same beginning the smaller number", 1, r::dearest);
        r.addCall(1, 850, 61, 0);
        CHECKS.due("P15 a dearer one", 3, r::dearest);
        r.addCall(1, 851, 1, 1);
        CHECKS.due("P15 a day fee counts", 4, r::dearest);
        for (int call = 0; call < 5; call++) {
            r.correct(call, 0);
        }
        CHECKS.due("P15 all cancelled: the first of those with price 0", 1, r::dearest);
    }

    private static int bit(boolean holds) {
        return holds ? 1 : 0;
    }
}
