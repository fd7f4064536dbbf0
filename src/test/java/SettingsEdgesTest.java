/** Promises 1 to 8: each sentence that names a boundary case, on both sides of the edge. */
public final class SettingsEdgesTest {
    private static final Checks CHECKS = new Checks();
    private static final Edges EMPTY = new Edges(CHECKS, Raters::empty);
    private static final Edges SOME = new Edges(CHECKS, Raters::some);
    private static final Edges FULL = new Edges(CHECKS, Raters::full);

    private static final Edges.Ask ADD_TARIFF = (r, a) -> r.addTariff(a[0], a[1], a[2], a[3], a[4]);
    private static final Edges.Ask SET_ZONE = (r, a) -> r.setZone(a[0], a[1], a[2], a[3]);
    private static final Edges.Ask SET_PEAK = (r, a) -> Edges.bit(r.setPeak(a[0], a[1]));
    private static final Edges.Ask ADD_ACCOUNT = (r, a) -> r.addAccount(a[0], a[1], a[2]);
    private static final Edges.Ask ADD_LINE = (r, a) -> r.addLine(a[0], a[1]);
    private static final Edges.Ask SET_TARIFF = (r, a) -> r.setTariff(a[0], a[1]);
    private static final Edges.Ask SET_BUNDLE = (r, a) -> r.setBundle(a[0], a[1]);

    public static void main(String[] args) {
        promise01HasNothing();
        promise02Ranges();
        promise02EndsAreUsed();
        promise02FifthAndSixth();
        promise03Ranges();
        promise03EndsAreUsed();
        promise03RateBefore();
        promise04Ranges();
        promise04LastLessThanFirst();
        promise04EndsAreUsed();
        promise04AnotherOne();
        promise05Ranges();
        promise05EndsAreUsed();
        promise05FourthAndFifth();
        promise06Ranges();
        promise06EighthAndNinth();
        promise07Ranges();
        promise07AllItsCalls();
        promise08Ranges();
        promise08EndsAreUsed();
        CHECKS.end("SettingsEdgesTest");
    }

    /** "Creates a rater without tariffs, accounts, lines and calls." */
    private static void promise01HasNothing() {
        EMPTY.refused(Edges.INDEX, "P1 setZone", SET_ZONE, 0, 1, 0, 0);
        EMPTY.refused(Edges.INDEX, "P1 addLine", ADD_LINE, 0, 0);
        EMPTY.refused(Edges.INDEX, "P1 setTariff", SET_TARIFF, 0, 0);
        EMPTY.refused(Edges.INDEX, "P1 setBundle", SET_BUNDLE, 0, 0);
        EMPTY.refused(Edges.INDEX, "P1 addCall", (r, a) -> r.addCall(a[0], a[1], a[2], a[3]), 0, 0, 1, 0);
        EMPTY.refused(Edges.INDEX, "P1 correct", (r, a) -> r.correct(a[0], a[1]), 0, 0);
        EMPTY.refused(Edges.INDEX, "P1 totalWith", (r, a) -> r.totalWith(a[0], a[1]), 0, 0);
        EMPTY.answers(0, "P1 the first tariff", ADD_TARIFF, 0, 0, 0, 1, 1);
        EMPTY.answers(0, "P1 the first account", ADD_ACCOUNT, 0, 0, 0);
        EMPTY.answers(0, "P1 callCount", (r, a) -> r.callCount());
    }

    /** "connection, peak or other is not 0 to 10000, or first or next is not 1 to 300" */
    private static void promise02Ranges() {
        int[] good = {50, 60, 70, 80, 90};
        for (Edges edges : new Edges[] {EMPTY, SOME}) {
            for (int at = 0; at < 3; at++) {
                edges.range(Edges.ARGUMENT, "P2 addTariff", ADD_TARIFF, good, at, 0, 10000);
            }
            for (int at = 3; at < 5; at++) {
                edges.range(Edges.ARGUMENT, "P2 addTariff", ADD_TARIFF, good, at, 1, 300);
            }
        }
    }

    private static void promise02EndsAreUsed() {
        tariffPrices(0, 0, 0, 1, 1, 61, 61, 0, 0);
        tariffPrices(10000, 0, 0, 1, 1, 61, 61, 10000, 10000);
        tariffPrices(0, 10000, 0, 1, 1, 61, 61, 10167, 0);
        tariffPrices(0, 0, 10000, 1, 1, 61, 61, 0, 10167);
        tariffPrices(0, 60, 120, 300, 1, 301, 301, 301, 602);
        tariffPrices(0, 60, 120, 1, 300, 2, 301, 301, 602);
    }

    private static void tariffPrices(int connection, int peak, int other, int first, int next, int seconds,
            int billed, int inPeak, int outside) {
        PhoneRater r = new PhoneRater();
        r.addTariff(connection, peak, other, first, next);
        r.addAccount(0, 1000000, 0);
        r.addLine(0, 0);
        r.addCall(0, 480, seconds, 0);
        r.addCall(0, 1080, seconds, 0);
        String tariff = "P2 tariff " + connection + " " + peak + " " + other + " " + first + " " + next;
        CHECKS.due(tariff + ": billed", billed, () -> r.told(0, 1));
        CHECKS.due(tariff + ": in the peak", inPeak, () -> r.told(0, 3));
        CHECKS.due(tariff + ": outside", outside, () -> r.told(1, 3));
    }

    /** "if there are 5 tariffs" */
    private static void promise02FifthAndSixth() {
        PhoneRater r = Raters.some();
        CHECKS.due("P2 the third tariff", 2, () -> r.addTariff(1, 1, 1, 1, 1));
        CHECKS.due("P2 the fourth tariff", 3, () -> r.addTariff(1, 1, 1, 1, 1));
        CHECKS.due("P2 the fifth tariff", 4, () -> r.addTariff(1, 1, 1, 1, 1));
        CHECKS.refusedState("P2 the sixth tariff", r, () -> r.addTariff(1, 1, 1, 1, 1));
        CHECKS.refusedIndex("P2 there is no sixth tariff", r, () -> r.setZone(5, 1, 0, 0));
        CHECKS.due("P2 the fifth one is there", 0, () -> r.setZone(4, 1, 0, 0));
        FULL.refused(Edges.STATE, "P2 the sixth tariff", ADD_TARIFF, 0, 0, 0, 1, 1);
        FULL.refused(Edges.STATE, "P2 the sixth tariff", ADD_TARIFF, 10000, 10000, 10000, 300, 300);
    }

    /** "if there is no such tariff, or zone is not 1 or 2", "if rate or dayFee is not 0 to 10000" */
    private static void promise03Ranges() {
        EMPTY.range(Edges.INDEX, "P3 setZone", SET_ZONE, new int[] {0, 1, 5, 5}, 0, 0, -1);
        SOME.range(Edges.INDEX, "P3 setZone", SET_ZONE, new int[] {0, 1, 5, 5}, 0, 0, 1);
        FULL.range(Edges.INDEX, "P3 setZone", SET_ZONE, new int[] {0, 1, 5, 5}, 0, 0, 4);
        for (int tariff = 0; tariff < 2; tariff++) {
            SOME.range(Edges.INDEX, "P3 setZone", SET_ZONE, new int[] {tariff, 1, 5, 5}, 1, 1, 2);
            SOME.range(Edges.ARGUMENT, "P3 setZone", SET_ZONE, new int[] {tariff, 1, 5, 5}, 2, 0, 10000);
            SOME.range(Edges.ARGUMENT, "P3 setZone", SET_ZONE, new int[] {tariff, 2, 5, 5}, 3, 0, 10000);
        }
    }

    private static void promise03EndsAreUsed() {
        for (int zone = 1; zone <= 2; zone++) {
            PhoneRater r = Raters.plain();
            r.addCall(0, 0, 1801, zone);
            r.setZone(0, zone, 10000, 0);
            CHECKS.due("P3 the greatest rate, no day fee", 300167, () -> r.told(0, 3));
            r.setZone(0, zone, 10000, 10000);
            CHECKS.due("P3 the greatest rate and day fee", 10167, () -> r.told(0, 3));
            CHECKS.due("P3 the greatest day fee", 10000, () -> r.told(0, 4));
            r.setZone(0, zone, 0, 10000);
            CHECKS.due("P3 no rate, the greatest day fee", 10000, () -> r.told(0, 3));
            r.setZone(0, zone, 0, 0);
            CHECKS.due("P3 no rate, no day fee", 0, () -> r.told(0, 3));
            r.setZone(0, zone, 1, 1);
            CHECKS.due("P3 a rate and a day fee of 1", 2, () -> r.told(0, 3));
        }
    }

    /** "Returns the rate before." */
    private static void promise03RateBefore() {
        PhoneRater r = Raters.plain();
        CHECKS.due("P3 before: at first", 0, () -> r.setZone(0, 1, 10000, 7));
        CHECKS.due("P3 before: the greatest", 10000, () -> r.setZone(0, 1, 10000, 8));
        CHECKS.refusedArgument("P3 refused", r, () -> r.setZone(0, 1, 9999, 10001));
        CHECKS.due("P3 before: not the refused one", 10000, () -> r.setZone(0, 1, 0, 0));
        CHECKS.due("P3 before: the least", 0, () -> r.setZone(0, 1, 1, 1));
        CHECKS.due("P3 before: the other zone", 0, () -> r.setZone(0, 2, 1, 1));
    }

    /** "if first or last is not 0 to 1439" */
    private static void promise04Ranges() {
        for (Edges edges : new Edges[] {EMPTY, SOME, FULL}) {
            edges.range(Edges.ARGUMENT, "P4 setPeak", SET_PEAK, new int[] {5, 1439}, 0, 0, 1439);
            edges.range(Edges.ARGUMENT, "P4 setPeak", SET_PEAK, new int[] {0, 5}, 1, 0, 1439);
            edges.refused(Edges.ARGUMENT, "P4 setPeak", SET_PEAK, -1, -1);
            edges.refused(Edges.ARGUMENT, "P4 setPeak", SET_PEAK, 1440, 1440);
            edges.refused(Edges.ARGUMENT, "P4 setPeak", SET_PEAK, Integer.MIN_VALUE, Integer.MAX_VALUE);
        }
    }

    /** "or last is less than first" */
    private static void promise04LastLessThanFirst() {
        SOME.refused(Edges.ARGUMENT, "P4 setPeak", SET_PEAK, 700, 699);
        SOME.answers(1, "P4 setPeak", SET_PEAK, 700, 700);
        SOME.answers(1, "P4 setPeak", SET_PEAK, 700, 701);
        SOME.refused(Edges.ARGUMENT, "P4 setPeak", SET_PEAK, 1, 0);
        SOME.answers(1, "P4 setPeak", SET_PEAK, 0, 0);
        SOME.refused(Edges.ARGUMENT, "P4 setPeak", SET_PEAK, 1439, 1438);
        SOME.answers(1, "P4 setPeak", SET_PEAK, 1439, 1439);
        SOME.refused(Edges.ARGUMENT, "P4 setPeak", SET_PEAK, 1439, 0);
    }

    private static void promise04EndsAreUsed() {
        PhoneRater r = new PhoneRater();
        r.addTariff(0, 120, 60, 1, 1);
        r.addAccount(0, 0, 0);
        r.addLine(0, 0);
        r.addCall(0, 0, 1, 0);
        r.addCall(0, 700, 10, 0);
        r.addCall(0, 1439, 100, 0);
        int[][] wants = {{0, 1439, 222}, {1, 1439, 221}, {0, 1438, 122}, {0, 0, 112}, {1439, 1439, 211}, {700, 700, 121},
            {701, 1438, 111}, {1, 699, 111}};
        for (int[] w : wants) {
            CHECKS.due("P4 setPeak " + w[0] + " to " + w[1], 1, () -> Edges.bit(r.setPeak(w[0], w[1])));
            CHECKS.due("P4 calls by a peak from " + w[0] + " to " + w[1], w[2], () -> r.sum(0));
        }
        CHECKS.refusedArgument("P4 refused", r, () -> Edges.bit(r.setPeak(0, 1440)));
        CHECKS.due("P4 behind a refusal", 111, () -> r.sum(0));
    }

    /** "Returns whether one of them is another one than before." */
    private static void promise04AnotherOne() {
        for (Edges edges : new Edges[] {EMPTY, SOME}) {
            edges.answers(0, "P4 none is another one", SET_PEAK, 480, 1079);
            edges.answers(1, "P4 first is another one", SET_PEAK, 479, 1079);
            edges.answers(1, "P4 first is another one", SET_PEAK, 481, 1079);
            edges.answers(1, "P4 last is another one", SET_PEAK, 480, 1078);
            edges.answers(1, "P4 last is another one", SET_PEAK, 480, 1080);
            edges.answers(1, "P4 both are other ones", SET_PEAK, 481, 1080);
        }
        PhoneRater r = Raters.some();
        CHECKS.refusedArgument("P4 refused", r, () -> Edges.bit(r.setPeak(481, 480)));
        CHECKS.due("P4 none is another one behind a refusal", 0, () -> Edges.bit(r.setPeak(480, 1079)));
    }

    /** "if bundle is not 0 to 100000, threshold is not 0 to 1000000, or percent is not 0 to 100" */
    private static void promise05Ranges() {
        for (Edges edges : new Edges[] {EMPTY, SOME}) {
            edges.range(Edges.ARGUMENT, "P5 addAccount", ADD_ACCOUNT, new int[] {1, 2, 3}, 0, 0, 100000);
            edges.range(Edges.ARGUMENT, "P5 addAccount", ADD_ACCOUNT, new int[] {1, 2, 3}, 1, 0, 1000000);
            edges.range(Edges.ARGUMENT, "P5 addAccount", ADD_ACCOUNT, new int[] {1, 2, 3}, 2, 0, 100);
        }
    }

    private static void promise05EndsAreUsed() {
        accountOwes(0, 0, 0, 4320000, 432000);
        accountOwes(100000, 0, 0, 3320000, 332000);
        accountOwes(99999, 0, 0, 3320010, 332001);
        accountOwes(0, 0, 100, 4320000, 0);
        accountOwes(0, 0, 99, 4320000, 4320);
        accountOwes(0, 0, 1, 4320000, 427680);
        accountOwes(0, 1000000, 100, 4320000, 100000);
        accountOwes(0, 999990, 100, 4320000, 99999);
        accountOwes(100000, 1000000, 100, 3320000, 100000);
    }

    /** 60 calls of 7200 seconds at home, each second for a cent. */
    private static void accountOwes(int bundle, int threshold, int percent, int sum, int total) {
        PhoneRater r = new PhoneRater();
        r.addTariff(0, 600, 600, 1, 1);
        r.addAccount(bundle, threshold, percent);
        r.addLine(0, 0);
        for (int i = 0; i < 60; i++) {
            r.addCall(0, i, 7200, 0);
        }
        String account = "P5 account " + bundle + " " + threshold + " " + percent;
        CHECKS.due(account + ": left", 0, () -> r.left(0));
        CHECKS.due(account + ": sum", sum, () -> r.sum(0));
        CHECKS.due(account + ": total", total, () -> r.total(0));
    }

    /** "if there are 4 accounts" */
    private static void promise05FourthAndFifth() {
        PhoneRater r = Raters.some();
        CHECKS.due("P5 the third account", 2, () -> r.addAccount(1, 1, 1));
        CHECKS.due("P5 the fourth account", 3, () -> r.addAccount(1, 1, 1));
        CHECKS.refusedState("P5 the fifth account", r, () -> r.addAccount(1, 1, 1));
        CHECKS.refusedIndex("P5 there is no fifth account", r, () -> r.left(4));
        CHECKS.due("P5 the fourth one is there", 1, () -> r.left(3));
        FULL.refused(Edges.STATE, "P5 the fifth account", ADD_ACCOUNT, 0, 0, 0);
        FULL.refused(Edges.STATE, "P5 the fifth account", ADD_ACCOUNT, 100000, 1000000, 100);
    }

    /** "if there is no such account or tariff" */
    private static void promise06Ranges() {
        SOME.range(Edges.INDEX, "P6 addLine", ADD_LINE, new int[] {0, 0}, 0, 0, 1);
        SOME.range(Edges.INDEX, "P6 addLine", ADD_LINE, new int[] {0, 0}, 1, 0, 1);
        EMPTY.range(Edges.INDEX, "P6 addLine", ADD_LINE, new int[] {0, 0}, 0, 0, -1);
        EMPTY.range(Edges.INDEX, "P6 addLine", ADD_LINE, new int[] {0, 0}, 1, 0, -1);
        Edges noTariff = new Edges(CHECKS, () -> built(0, 1));
        noTariff.range(Edges.INDEX, "P6 addLine without tariffs", ADD_LINE, new int[] {0, 0}, 1, 0, -1);
        Edges noAccount = new Edges(CHECKS, () -> built(1, 0));
        noAccount.range(Edges.INDEX, "P6 addLine without accounts", ADD_LINE, new int[] {0, 0}, 0, 0, -1);
        Edges most = new Edges(CHECKS, () -> built(5, 4));
        most.range(Edges.INDEX, "P6 addLine", ADD_LINE, new int[] {0, 0}, 0, 0, 3);
        most.range(Edges.INDEX, "P6 addLine", ADD_LINE, new int[] {0, 0}, 1, 0, 4);
    }

    private static PhoneRater built(int tariffs, int accounts) {
        PhoneRater r = new PhoneRater();
        for (int i = 0; i < tariffs; i++) {
            r.addTariff(i, i, i, 1, 1);
        }
        for (int i = 0; i < accounts; i++) {
            r.addAccount(i, i, i);
        }
        return r;
    }

    /** "if there are 8 lines" */
    private static void promise06EighthAndNinth() {
        PhoneRater r = Raters.some();
        for (int line = 2; line < 8; line++) {
            CHECKS.due("P6 line " + line, line, () -> r.addLine(1, 1));
        }
        CHECKS.refusedState("P6 the ninth line", r, () -> r.addLine(1, 1));
        CHECKS.refusedIndex("P6 there is no ninth line", r, () -> r.lineSum(8));
        CHECKS.due("P6 the eighth one is there", 0, () -> r.lineSum(7));
        FULL.refused(Edges.STATE, "P6 the ninth line", ADD_LINE, 0, 0);
        FULL.refused(Edges.STATE, "P6 the ninth line", ADD_LINE, 3, 4);
    }

    /** "if there is no such line or tariff" */
    private static void promise07Ranges() {
        EMPTY.range(Edges.INDEX, "P7 setTariff", SET_TARIFF, new int[] {0, 0}, 0, 0, -1);
        SOME.range(Edges.INDEX, "P7 setTariff", SET_TARIFF, new int[] {0, 1}, 0, 0, 1);
        SOME.range(Edges.INDEX, "P7 setTariff", SET_TARIFF, new int[] {0, 1}, 1, 0, 1);
        FULL.range(Edges.INDEX, "P7 setTariff", SET_TARIFF, new int[] {0, 1}, 0, 0, 7);
        FULL.range(Edges.INDEX, "P7 setTariff", SET_TARIFF, new int[] {0, 1}, 1, 0, 4);
    }

    /** "Gives a line another tariff, for all its calls.", "Returns the tariff before." */
    private static void promise07AllItsCalls() {
        PhoneRater r = Raters.plain();
        r.addTariff(0, 120, 120, 1, 1);
        r.addLine(0, 0);
        r.addCall(0, 0, 1, 0);
        r.addCall(0, 43199, 10, 0);
        r.addCall(1, 0, 100, 0);
        CHECKS.due("P7 the tariff before", 0, () -> r.setTariff(0, 1));
        CHECKS.due("P7 its first and its last call", 22, () -> r.lineSum(0));
        CHECKS.due("P7 not those of the other line", 100, () -> r.lineSum(1));
        CHECKS.refusedIndex("P7 refused", r, () -> r.setTariff(0, 2));
        CHECKS.due("P7 before: not the refused one", 1, () -> r.setTariff(0, 1));
        CHECKS.due("P7 before: the same one", 1, () -> r.setTariff(0, 0));
        CHECKS.due("P7 back again", 11, () -> r.lineSum(0));
    }

    /** "if there is no such account", "if bundle is not 0 to 100000" */
    private static void promise08Ranges() {
        EMPTY.range(Edges.INDEX, "P8 setBundle", SET_BUNDLE, new int[] {0, 5}, 0, 0, -1);
        SOME.range(Edges.INDEX, "P8 setBundle", SET_BUNDLE, new int[] {0, 5}, 0, 0, 1);
        FULL.range(Edges.INDEX, "P8 setBundle", SET_BUNDLE, new int[] {0, 5}, 0, 0, 3);
        for (int account = 0; account < 2; account++) {
            SOME.range(Edges.ARGUMENT, "P8 setBundle", SET_BUNDLE, new int[] {account, 5}, 1, 0, 100000);
        }
    }

    /** "Returns the bundle before." */
    private static void promise08EndsAreUsed() {
        PhoneRater r = Raters.withBundle(1);
        r.addCall(0, 0, 60, 0);
        CHECKS.due("P8 before: that of addAccount", 1, () -> r.setBundle(0, 100000));
        CHECKS.due("P8 the greatest bundle", 99940, () -> r.left(0));
        CHECKS.due("P8 before: the whole, not what is left", 100000, () -> r.setBundle(0, 0));
        CHECKS.due("P8 no bundle", 60, () -> r.sum(0));
        CHECKS.refusedArgument("P8 refused", r, () -> r.setBundle(0, -1));
        CHECKS.due("P8 before: not the refused one", 0, () -> r.setBundle(0, 60));
        CHECKS.due("P8 just enough", 0, () -> r.sum(0));
        CHECKS.due("P8 before: a bundle that is gone", 60, () -> r.setBundle(0, 59));
        CHECKS.due("P8 a second too little", 1, () -> r.sum(0));
    }
}
