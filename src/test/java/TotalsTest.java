/** Promises 16 to 26: sums, totals, trials of tariffs and the checksum. */
public final class TotalsTest {
    private static final Checks CHECKS = new Checks();

    public static void main(String[] args) {
        promise16LineSum();
        promise17DaySum();
        promise18Sum();
        promise19Total();
        promise19Rounding();
        promise19GreatSum();
        promise20Left();
        promise21Emptied();
        promise22DayFees();
        promise23TotalWith();
        promise24BestTariff();
        promise24SharedBundle();
        promise25FreeShare();
        promise26Digest();
        CHECKS.end("TotalsTest");
    }

    /** Tariff 0: a tenth of a cent a second at home, 2 in zone 1, a day fee of 100 there; three lines, the last of account 1. */
    private static PhoneRater threeLines(int bundle) {
        PhoneRater r = new PhoneRater();
        r.addTariff(0, 60, 60, 1, 1);
        r.setZone(0, 1, 120, 100);
        r.setZone(0, 2, 180, 0);
        r.addAccount(bundle, 1000000, 0);
        r.addAccount(bundle, 1000000, 0);
        r.addLine(0, 0);
        r.addLine(0, 0);
        r.addLine(1, 0);
        return r;
    }

    /** An account whose one line calls at home for so many tenths of a cent. */
    private static PhoneRater costing(int tenths, int threshold, int percent) {
        PhoneRater r = new PhoneRater();
        r.addTariff(0, 60, 60, 1, 1);
        r.addAccount(0, threshold, percent);
        r.addLine(0, 0);
        r.addCall(0, 0, tenths, 0);
        return r;
    }

    private static void promise16LineSum() {
        PhoneRater r = threeLines(0);
        CHECKS.due("P16 no calls", 0, () -> r.lineSum(0));
        r.addCall(0, 5, 10, 0);
        r.addCall(1, 5, 200, 0);
        r.addCall(0, 5, 7, 1);
        CHECKS.due("P16 a day fee counts", 110, () -> r.lineSum(0));
        CHECKS.due("P16 the other line", 200, () -> r.lineSum(1));
        r.correct(0, 0);
        CHECKS.due("P16 a cancelled call counts nothing", 100, () -> r.lineSum(0));
        CHECKS.refusedIndex("P16 line -1", r, () -> r.lineSum(-1));
        CHECKS.refusedIndex("P16 line 3 of 3", r, () -> r.lineSum(3));
    }

    private static void promise17DaySum() {
        PhoneRater r = threeLines(0);
        r.addCall(0, 0, 1, 0);
        r.addCall(2, 1439, 20, 0);
        r.addCall(1, 1440, 300, 0);
        r.addCall(1, 43199, 4000, 0);
        CHECKS.due("P17 day 0, of two accounts", 21, () -> r.daySum(0));
        CHECKS.due("P17 day 1", 300, () -> r.daySum(1));
        CHECKS.due("P17 a day without calls", 0, () -> r.daySum(2));
        CHECKS.due("P17 day 29", 4000, () -> r.daySum(29));
        r.correct(1, 0);
        CHECKS.due("P17 a cancelled call counts nothing", 1, () -> r.daySum(0));
        CHECKS.refusedIndex("P17 day -1", r, () -> r.daySum(-1));
        CHECKS.refusedIndex("P17 day 30", r, () -> r.daySum(30));
    }

    private static void promise18Sum() {
        PhoneRater r = threeLines(0);
        CHECKS.due("P18 no calls", 0, () -> r.sum(0));
        r.addCall(0, 9, 1, 0);
        r.addCall(1, 8, 20, 0);
        r.addCall(2, 7, 300, 0);
        CHECKS.due("P18 two lines", 21, () -> r.sum(0));
        CHECKS.due("P18 the other account", 300, () -> r.sum(1));
        r.correct(0, 0);
        CHECKS.due("P18 a cancelled call counts nothing", 20, () -> r.sum(0));
        CHECKS.refusedIndex("P18 account -1", r, () -> r.sum(-1));
        CHECKS.refusedIndex("P18 account 2 of 2", r, () -> r.sum(2));
    }

    private static void promise19Total() {
        int[][] wants = {
            {1000, 1000, 10, 100}, {999, 1000, 100, 100}, {1010, 1000, 10, 101}, {2000, 1000, 10, 190},
            {2000, 0, 100, 0}, {2000, 1000, 100, 100}, {2000, 1000, 0, 200}, {1005, 1000, 100, 100},
            {1019, 1000, 50, 101}, {1015, 1000, 33, 101}, {1016, 1000, 33, 101}, {7000, 6999, 100, 700},
        };
        for (int[] w : wants) {
            PhoneRater r = costing(w[0], w[1], w[2]);
            CHECKS.due("P19 total of " + w[0] + ", " + w[2] + " percent above " + w[1], w[3], () -> r.total(0));
        }
        PhoneRater r = threeLines(0);
        r.addCall(2, 0, 40, 0);
        CHECKS.due("P19 no calls", 0, () -> r.total(0));
        CHECKS.due("P19 the other account", 4, () -> r.total(1));
        CHECKS.refusedIndex("P19 account -1", r, () -> r.total(-1));
        CHECKS.refusedIndex("P19 account 2 of 2", r, () -> r.total(2));
    }

    private static void promise19Rounding() {
        int[][] wants = {{1, 0}, {4, 0}, {5, 1}, {14, 1}, {15, 2}, {16, 2}, {20, 2}};
        for (int[] w : wants) {
            PhoneRater r = costing(w[0], 0, 0);
            CHECKS.due("P19 total of " + w[0], w[1], () -> r.total(0));
        }
        // 33 percent of 3 are 0.99, cut to 0, so 15 stay; not cut, they would be 14.01
        PhoneRater cut = costing(15, 12, 33);
        CHECKS.due("P19 what is taken off is cut", 2, () -> cut.total(0));
    }

    private static void promise19GreatSum() {
        PhoneRater r = new PhoneRater();
        r.addTariff(10000, 10000, 10000, 300, 300);
        r.addAccount(0, 1000000, 99);
        r.addLine(0, 0);
        for (int i = 0; i < 60; i++) {
            r.addCall(0, i, 7200, 0);
        }
        CHECKS.due("P18 sum of 60 calls of 1210000", 72600000, () -> r.sum(0));
        // 99 percent of 71600000 are 70884000
        CHECKS.due("P19 the percentage of a great sum", 171600, () -> r.total(0));
    }

    private static void promise20Left() {
        PhoneRater r = threeLines(100);
        CHECKS.due("P20 no calls", 100, () -> r.left(0));
        r.addCall(0, 50, 30, 0);
        r.addCall(1, 40, 30, 0);
        r.addCall(1, 30, 999, 1);
        r.addCall(1, 30, 999, 2);
        CHECKS.due("P20 two lines share it", 40, () -> r.left(0));
        CHECKS.due("P20 the other account has its own", 100, () -> r.left(1));
        r.addCall(0, 20, 40, 0);
        CHECKS.due("P20 just used up", 0, () -> r.left(0));
        r.addCall(0, 20, 40, 0);
        CHECKS.due("P20 never below 0", 0, () -> r.left(0));
        r.correct(2 + 2, 0);
        CHECKS.due("P20 a cancelled call takes nothing", 0, () -> r.left(0));
        r.correct(5, 0);
        CHECKS.due("P20 two cancelled calls take nothing", 40, () -> r.left(0));
        CHECKS.refusedIndex("P20 account -1", r, () -> r.left(-1));
        CHECKS.refusedIndex("P20 account 2 of 2", r, () -> r.left(2));
    }

    private static void promise21Emptied() {
        PhoneRater r = threeLines(100);
        CHECKS.due("P21 no calls", -1, () -> r.emptied(0));
        r.addCall(0, 50, 99, 0);
        CHECKS.due("P21 a second is left", -1, () -> r.emptied(0));
        r.addCall(1, 60, 1, 0);
        CHECKS.due("P21 the last second is taken", 1, () -> r.emptied(0));
        CHECKS.due("P21 the other account", -1, () -> r.emptied(1));
        r.addCall(1, 60, 50, 0);
        CHECKS.due("P21 a later call changes nothing", 1, () -> r.emptied(0));
        r.addCall(0, 49, 1, 0);
        CHECKS.due("P21 an earlier call makes it another", 0, () -> r.emptied(0));
        r.addCall(2, 1, 500, 0);
        CHECKS.due("P21 a call that takes more than is left", 4, () -> r.emptied(1));
        r.correct(0, 0);
        CHECKS.due("P21 a cancelled call empties nothing", -1, () -> r.emptied(0));
        r.setBundle(0, 0);
        CHECKS.due("P21 a bundle of 0", -1, () -> r.emptied(0));
        CHECKS.refusedIndex("P21 account -1", r, () -> r.emptied(-1));
        CHECKS.refusedIndex("P21 account 2 of 2", r, () -> r.emptied(2));
    }

    private static void promise22DayFees() {
        PhoneRater r = threeLines(0);
        CHECKS.due("P22 no calls", 0, () -> r.dayFees(0, 1));
        r.addCall(0, 0, 1, 1);
        r.addCall(0, 1439, 1, 1);
        CHECKS.due("P22 one for the calls of a day", 1, () -> r.dayFees(0, 1));
        r.addCall(0, 1440, 1, 1);
        CHECKS.due("P22 one for the next day", 2, () -> r.dayFees(0, 1));
        r.addCall(0, 0, 1, 0);
        r.addCall(0, 0, 1, 2);
        CHECKS.due("P22 no day fee in zone 2", 0, () -> r.dayFees(0, 2));
        CHECKS.due("P22 the other line", 0, () -> r.dayFees(1, 1));
        r.correct(0, 0);
        CHECKS.due("P22 the other call of the day costs it", 2, () -> r.dayFees(0, 1));
        r.correct(1, 0);
        CHECKS.due("P22 a day of cancelled calls costs none", 1, () -> r.dayFees(0, 1));
        r.setZone(0, 2, 1, 1);
        CHECKS.due("P22 now zone 2 has one", 1, () -> r.dayFees(0, 2));
        r.setZone(0, 1, 1, 0);
        CHECKS.due("P22 now zone 1 has none", 0, () -> r.dayFees(0, 1));
        CHECKS.refusedIndex("P22 line -1", r, () -> r.dayFees(-1, 1));
        CHECKS.refusedIndex("P22 line 3 of 3", r, () -> r.dayFees(3, 1));
        CHECKS.refusedIndex("P22 zone 0", r, () -> r.dayFees(0, 0));
        CHECKS.refusedIndex("P22 zone 3", r, () -> r.dayFees(0, 3));
    }

    private static void promise23TotalWith() {
        PhoneRater r = threeLines(50);
        r.addTariff(100, 120, 120, 1, 1);
        r.addCall(0, 10, 100, 0);
        r.addCall(1, 20, 100, 0);
        long before = r.digest();
        CHECKS.due("P23 the tariff that it has", 15, () -> r.totalWith(0, 0));
        CHECKS.due("P23 another tariff for line 0", 30, () -> r.totalWith(0, 1));
        CHECKS.due("P23 another tariff for line 1", 35, () -> r.totalWith(1, 1));
        CHECKS.due("P23 a line without calls", 0, () -> r.totalWith(2, 1));
        CHECKS.isTrue("P23 totalWith changes nothing", r.digest() == before);
        CHECKS.due("P23 the tariff stays", 0, () -> r.setTariff(0, 0));
        CHECKS.refusedIndex("P23 line -1", r, () -> r.totalWith(-1, 0));
        CHECKS.refusedIndex("P23 line 3 of 3", r, () -> r.totalWith(3, 0));
        CHECKS.refusedIndex("P23 tariff -1", r, () -> r.totalWith(0, -1));
        CHECKS.refusedIndex("P23 tariff 2 of 2", r, () -> r.totalWith(0, 2));
    }

    private static void promise24BestTariff() {
        PhoneRater r = threeLines(0);
        CHECKS.due("P24 one tariff", 0, () -> r.bestTariff(0));
        r.addTariff(0, 6, 6, 1, 1);
        CHECKS.due("P24 of two without calls the smaller number", 0, () -> r.bestTariff(0));
        r.addCall(0, 0, 100, 0);
        long before = r.digest();
        CHECKS.due("P24 the cheaper one", 1, () -> r.bestTariff(0));
        CHECKS.isTrue("P24 bestTariff changes nothing", r.digest() == before);
        r.addTariff(0, 6, 6, 1, 1);
        CHECKS.due("P24 of two equal ones the smaller number", 1, () -> r.bestTariff(0));
        r.addTariff(0, 6, 5, 1, 1);
        CHECKS.due("P24 totals that round to the same cents are equal", 1, () -> r.bestTariff(0));
        r.addTariff(0, 0, 0, 1, 1);
        CHECKS.due("P24 the cheapest of five", 4, () -> r.bestTariff(0));
        r.setTariff(0, 2);
        CHECKS.due("P24 whatever it has", 4, () -> r.bestTariff(0));
        CHECKS.due("P24 the tariff stays", 2, () -> r.setTariff(0, 2));
        CHECKS.refusedIndex("P24 line -1", r, () -> r.bestTariff(-1));
        CHECKS.refusedIndex("P24 line 3 of 3", r, () -> r.bestTariff(3));
    }

    /** A tariff that is dearer for its line can spare the bundle for another line of the account. */
    private static void promise24SharedBundle() {
        PhoneRater r = new PhoneRater();
        r.addTariff(0, 60, 60, 300, 300);
        r.addTariff(0, 120, 120, 1, 1);
        r.addTariff(0, 6000, 6000, 1, 1);
        r.addAccount(300, 0, 0);
        r.addLine(0, 0);
        r.addLine(0, 2);
        r.addCall(0, 0, 1, 0);
        r.addCall(1, 10, 300, 0);
        CHECKS.due("P23 with the first tariff the bundle is gone", 3000, () -> r.totalWith(0, 0));
        CHECKS.due("P23 with the second one it is left for the other line", 10, () -> r.totalWith(0, 1));
        CHECKS.due("P24 the account's total decides", 1, () -> r.bestTariff(0));
    }

    private static void promise25FreeShare() {
        PhoneRater r = threeLines(30);
        CHECKS.due("P25 no calls", 0.0, r::freeShare);
        r.addCall(0, 0, 90, 0);
        CHECKS.due("P25 30 of 90", 30.0 / 90.0, r::freeShare);
        r.addCall(2, 0, 10, 0);
        CHECKS.due("P25 of all accounts", 40.0 / 100.0, r::freeShare);
        r.addCall(1, 0, 2000, 1);
        CHECKS.due("P25 free seconds abroad count", 1840.0 / 2100.0, r::freeShare);
        r.correct(2, 0);
        r.correct(0, 0);
        CHECKS.due("P25 all are free", 1.0, r::freeShare);
        r.correct(1, 0);
        CHECKS.due("P25 all are cancelled", 0.0, r::freeShare);
    }

    private static long digestOf(int... numbers) {
        long d = 193;
        for (int x : numbers) {
            d = d * 31 + x;
        }
        return d;
    }

    private static void promise26Digest() {
        PhoneRater r = new PhoneRater();
        isDigest("of a new object", r, 0, 0, 0, 0, 480, 1079);
        r.setPeak(7, 8);
        isDigest("of another peak", r, 0, 0, 0, 0, 7, 8);
        r.addTariff(0, 60, 60, 1, 1);
        r.addTariff(0, 120, 120, 60, 1);
        r.addAccount(50, 10, 50);
        r.addAccount(9, 0, 0);
        r.addAccount(0, 0, 0);
        r.addLine(1, 1);
        r.addLine(0, 0);
        isDigest("without calls", r, 2, 3, 2, 0, 7, 8, 1, 0, 0, 0, 50, 0, 0, 50, 9, 0, 0, 9, 0, 0, 0, 0);
        r.setZone(0, 2, 60, 33);
        r.addCall(1, 900, 100, 0);
        r.addCall(0, 800, 3, 0);
        r.addCall(1, 850, 1801, 2);
        r.addCall(0, 850, 1, 2);
        r.correct(3, 0);
        isDigest("with calls", r, 2, 3, 2, 4, 7, 8, 1, 102, 0, 84, 50, 84, 5, 0, 9, 102, 10, 0, 0, 0, 0, 0,
                1, 3, 60, 9, 102, 0, 2, 1801, 1801, 1800, 34, 33, 3, 0, 0, 0, 0, 0, 0, 100, 100, 50, 50, 0);
    }

    private static void isDigest(String what, PhoneRater r, int... numbers) {
        long got = r.digest();
        long want = digestOf(numbers);
        CHECKS.isTrue("P26 digest " + what + " answered " + got + ", due is " + want, got == want);
    }
}
