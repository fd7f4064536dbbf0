/** Promises 1 to 8: a new object, and what tariffs, the peak, accounts and lines are set to. */
public final class SettingsTest {
    private static final Checks CHECKS = new Checks();

    public static void main(String[] args) {
        promise01NewObject();
        promise02AddTariff();
        promise02WrongTariffs();
        promise03SetZone();
        promise03WrongZones();
        promise04SetPeak();
        promise05AddAccount();
        promise06AddLine();
        promise07SetTariff();
        promise08SetBundle();
        CHECKS.end("SettingsTest");
    }

    /** One tariff (connection 10, peak 60, other 30, 60/30), one account (bundle 0), one line. */
    private static PhoneRater oneLine() {
        PhoneRater r = new PhoneRater();
        r.addTariff(10, 60, 30, 60, 30);
        r.addAccount(0, 1000000, 0);
        r.addLine(0, 0);
        return r;
    }

    private static void promise01NewObject() {
        PhoneRater r = new PhoneRater();
        CHECKS.due("P1 callCount of a new object", 0, r::callCount);
        CHECKS.due("P1 dearest of a new object", -1, r::dearest);
        CHECKS.due("P1 freeShare of a new object", 0.0, r::freeShare);
        CHECKS.due("P1 daySum(0) of a new object", 0, () -> r.daySum(0));
        CHECKS.due("P1 daySum(29) of a new object", 0, () -> r.daySum(29));
        CHECKS.refusedIndex("P1 sum(0) of a new object", r, () -> r.sum(0));
        CHECKS.refusedIndex("P1 lineSum(0) of a new object", r, () -> r.lineSum(0));
        CHECKS.refusedIndex("P1 told(0, 0) of a new object", r, () -> r.told(0, 0));
        CHECKS.refusedIndex("P1 setZone(0, 1, 0, 0) of a new object", r, () -> r.setZone(0, 1, 0, 0));
        CHECKS.isTrue("P1 a new object has its first peak from 480 to 1079", !r.setPeak(480, 1079));
    }

    private static void promise02AddTariff() {
        PhoneRater r = new PhoneRater();
        CHECKS.due("P2 first tariff", 0, () -> r.addTariff(0, 0, 0, 1, 1));
        CHECKS.due("P2 tariff with the greatest numbers", 1, () -> r.addTariff(10000, 10000, 10000, 300, 300));
        CHECKS.due("P2 third tariff", 2, () -> r.addTariff(1, 2, 3, 4, 5));
        CHECKS.due("P2 fourth tariff", 3, () -> r.addTariff(7, 120, 60, 30, 10));
        CHECKS.due("P2 fifth tariff", 4, () -> r.addTariff(1, 2, 3, 4, 5));
        CHECKS.refusedState("P2 sixth tariff", r, () -> r.addTariff(1, 2, 3, 4, 5));
        CHECKS.refusedArgument("P2 sixth tariff, and wrong", r, () -> r.addTariff(-1, 2, 3, 4, 5));
        r.addAccount(0, 0, 0);
        r.addLine(0, 3);
        r.addCall(0, 480, 31, 0);
        r.addCall(0, 0, 31, 0);
        CHECKS.due("P2 billed by first 30 and next 10", 40, () -> r.told(0, 1));
        CHECKS.due("P2 connection 7 and peak rate 120", 87, () -> r.told(0, 3));
        CHECKS.due("P2 connection 7 and other rate 60", 47, () -> r.told(1, 3));
        CHECKS.due("P2 no zone is set at first", 0, () -> r.setZone(3, 1, 5, 5));
        CHECKS.due("P2 no zone is set at first", 0, () -> r.setZone(3, 2, 5, 5));
        tariffAtHighestPrice();
        tariffHasNoDayFeeAtFirst();
    }

    private static void tariffAtHighestPrice() {
        PhoneRater r = new PhoneRater();
        r.addTariff(10000, 10000, 10000, 1, 300);
        r.addAccount(0, 0, 0);
        r.addLine(0, 0);
        r.addCall(0, 480, 7200, 0);
        CHECKS.due("P2 billed of 1 and 24 times 300", 7201, () -> r.told(0, 1));
        CHECKS.due("P2 the greatest rate and connection", 10000 + 1200167, () -> r.told(0, 3));
    }

    private static void tariffHasNoDayFeeAtFirst() {
        PhoneRater r = oneLine();
        r.addCall(0, 0, 61, 1);
        CHECKS.due("P2 nothing is free abroad without a day fee", 0, () -> r.told(0, 2));
        CHECKS.due("P2 no day fee at first", 0, () -> r.told(0, 4));
        CHECKS.due("P2 the rate abroad is 0 at first", 10, () -> r.told(0, 3));
    }

    private static void promise02WrongTariffs() {
        PhoneRater r = new PhoneRater();
        int[][] wrong = {
            {-1, 0, 0, 1, 1}, {10001, 0, 0, 1, 1}, {0, -1, 0, 1, 1}, {0, 10001, 0, 1, 1},
            {0, 0, -1, 1, 1}, {0, 0, 10001, 1, 1}, {0, 0, 0, 0, 1}, {0, 0, 0, 301, 1},
            {0, 0, 0, 1, 0}, {0, 0, 0, 1, 301}, {Integer.MIN_VALUE, 0, 0, 1, 1}, {0, 0, 0, 1, Integer.MAX_VALUE},
        };
        for (int[] w : wrong) {
            CHECKS.refusedArgument("P2 addTariff" + java.util.Arrays.toString(w), r,
                    () -> r.addTariff(w[0], w[1], w[2], w[3], w[4]));
        }
        CHECKS.due("P2 wrong tariffs are not counted", 0, () -> r.addTariff(0, 0, 0, 1, 1));
    }

    private static void promise03SetZone() {
        PhoneRater r = oneLine();
        r.addCall(0, 10, 60, 1);
        r.addCall(0, 20, 60, 2);
        CHECKS.due("P3 the rate of zone 1 before", 0, () -> r.setZone(0, 1, 200, 0));
        CHECKS.due("P3 the rate of zone 2 before", 0, () -> r.setZone(0, 2, 300, 77));
        CHECKS.due("P3 the new rate is for calls already there", 210, () -> r.told(0, 3));
        CHECKS.due("P3 the day fee of zone 2 is not that of zone 1", 0, () -> r.told(0, 4));
        CHECKS.due("P3 the new day fee is for calls already there", 77, () -> r.told(1, 3));
        CHECKS.due("P3 setting it again", 200, () -> r.setZone(0, 1, 10000, 10000));
        CHECKS.due("P3 the greatest day fee", 10000, () -> r.told(0, 4));
        CHECKS.due("P3 a day fee of 0 is none", 10000, () -> r.setZone(0, 1, 60, 0));
        CHECKS.due("P3 a day fee of 0 frees nothing", 0, () -> r.told(0, 2));
        CHECKS.due("P3 a day fee of 0 costs nothing", 70, () -> r.told(0, 3));
        CHECKS.due("P3 zone 2 is as it was", 300, () -> r.setZone(0, 2, 0, 0));
        r.addTariff(0, 0, 0, 1, 1);
        CHECKS.due("P3 another tariff has zones of its own", 0, () -> r.setZone(1, 1, 8, 8));
        CHECKS.due("P3 the first tariff keeps its zones", 60, () -> r.setZone(0, 1, 60, 0));
    }

    private static void promise03WrongZones() {
        PhoneRater r = oneLine();
        r.setZone(0, 1, 60, 9);
        r.addCall(0, 10, 2400, 1);
        CHECKS.refusedIndex("P3 tariff -1", r, () -> r.setZone(-1, 1, 0, 0));
        CHECKS.refusedIndex("P3 tariff 1 of 1", r, () -> r.setZone(1, 1, 0, 0));
        CHECKS.refusedIndex("P3 zone 0", r, () -> r.setZone(0, 0, 0, 0));
        CHECKS.refusedIndex("P3 zone 3", r, () -> r.setZone(0, 3, 0, 0));
        CHECKS.refusedIndex("P3 zone -1", r, () -> r.setZone(0, -1, 0, 0));
        CHECKS.refusedIndex("P3 zone 3 and a wrong rate", r, () -> r.setZone(0, 3, -1, 0));
        CHECKS.refusedIndex("P3 no tariff and a wrong rate", r, () -> r.setZone(1, 1, -1, 0));
        CHECKS.refusedArgument("P3 rate -1", r, () -> r.setZone(0, 1, -1, 0));
        CHECKS.refusedArgument("P3 rate 10001", r, () -> r.setZone(0, 1, 10001, 0));
        CHECKS.refusedArgument("P3 day fee -1", r, () -> r.setZone(0, 1, 0, -1));
        CHECKS.refusedArgument("P3 day fee 10001", r, () -> r.setZone(0, 1, 0, 10001));
        CHECKS.due("P3 the refused ones have changed nothing", 60, () -> r.setZone(0, 1, 60, 9));
    }

    private static void promise04SetPeak() {
        PhoneRater r = oneLine();
        r.addCall(0, 479, 60, 0);
        r.addCall(0, 1079, 60, 0);
        CHECKS.due("P4 the first peak again", 0, () -> bit(r.setPeak(480, 1079)));
        CHECKS.due("P4 another first minute", 1, () -> bit(r.setPeak(479, 1079)));
        CHECKS.due("P4 calls are rated by the new peak", 70, () -> r.told(0, 3));
        CHECKS.due("P4 another last minute", 1, () -> bit(r.setPeak(479, 1078)));
        CHECKS.due("P4 calls are rated by the new peak", 40, () -> r.told(1, 3));
        CHECKS.due("P4 the same peak again", 0, () -> bit(r.setPeak(479, 1078)));
        CHECKS.due("P4 the longest peak", 1, () -> bit(r.setPeak(0, 1439)));
        CHECKS.due("P4 the shortest peak", 1, () -> bit(r.setPeak(479, 479)));
        CHECKS.due("P4 the only minute is in the peak", 1, () -> bit(r.isPeak(0)));
        CHECKS.refusedArgument("P4 first -1", r, () -> bit(r.setPeak(-1, 5)));
        CHECKS.refusedArgument("P4 last 1440", r, () -> bit(r.setPeak(0, 1440)));
        CHECKS.refusedArgument("P4 first 1440", r, () -> bit(r.setPeak(1440, 1440)));
        CHECKS.refusedArgument("P4 last -1", r, () -> bit(r.setPeak(0, -1)));
        CHECKS.refusedArgument("P4 both -1", r, () -> bit(r.setPeak(-1, -1)));
        CHECKS.refusedArgument("P4 last before first", r, () -> bit(r.setPeak(6, 5)));
        CHECKS.due("P4 the refused ones have changed nothing", 0, () -> bit(r.setPeak(479, 479)));
        CHECKS.due("P4 the last minute of the day", 1, () -> bit(r.setPeak(1439, 1439)));
    }

    private static void promise05AddAccount() {
        PhoneRater r = new PhoneRater();
        int[][] wrong = {
            {-1, 0, 0}, {100001, 0, 0}, {0, -1, 0}, {0, 1000001, 0}, {0, 0, -1}, {0, 0, 101},
        };
        for (int[] w : wrong) {
            CHECKS.refusedArgument("P5 addAccount" + java.util.Arrays.toString(w), r,
                    () -> r.addAccount(w[0], w[1], w[2]));
        }
        CHECKS.due("P5 first account", 0, () -> r.addAccount(0, 0, 0));
        CHECKS.due("P5 the greatest numbers", 1, () -> r.addAccount(100000, 1000000, 100));
        CHECKS.due("P5 the bundle is left at first", 100000, () -> r.left(1));
        CHECKS.due("P5 a new account has no sum", 0, () -> r.sum(1));
        CHECKS.due("P5 third account", 2, () -> r.addAccount(1, 100, 50));
        CHECKS.due("P5 fourth account", 3, () -> r.addAccount(2, 0, 100));
        CHECKS.refusedState("P5 fifth account", r, () -> r.addAccount(0, 0, 0));
        CHECKS.refusedArgument("P5 fifth account, and wrong", r, () -> r.addAccount(0, 0, 101));
        r.addTariff(0, 60, 60, 1, 1);
        r.addLine(2, 0);
        r.addCall(0, 0, 301, 0);
        CHECKS.due("P5 its bundle frees a second", 300, () -> r.sum(2));
        CHECKS.due("P5 half of what is above 100 is taken off", 20, () -> r.total(2));
    }

    private static void promise06AddLine() {
        PhoneRater r = new PhoneRater();
        CHECKS.refusedIndex("P6 a line without accounts and tariffs", r, () -> r.addLine(0, 0));
        r.addTariff(0, 60, 60, 1, 1);
        CHECKS.refusedIndex("P6 a line without accounts", r, () -> r.addLine(0, 0));
        r.addAccount(0, 0, 0);
        r.addAccount(0, 0, 0);
        r.addTariff(0, 120, 120, 1, 1);
        CHECKS.refusedIndex("P6 account -1", r, () -> r.addLine(-1, 0));
        CHECKS.refusedIndex("P6 account 2 of 2", r, () -> r.addLine(2, 0));
        CHECKS.refusedIndex("P6 tariff -1", r, () -> r.addLine(0, -1));
        CHECKS.refusedIndex("P6 tariff 2 of 2", r, () -> r.addLine(0, 2));
        CHECKS.due("P6 first line", 0, () -> r.addLine(1, 0));
        CHECKS.due("P6 second line", 1, () -> r.addLine(0, 1));
        r.addCall(1, 0, 10, 0);
        CHECKS.due("P6 the line's tariff", 20, () -> r.lineSum(1));
        CHECKS.due("P6 the line's account", 20, () -> r.sum(0));
        CHECKS.due("P6 the other account", 0, () -> r.sum(1));
        for (int i = 2; i < 8; i++) {
            int number = i;
            CHECKS.due("P6 line " + i, i, () -> r.addLine(number % 2, 1));
        }
        CHECKS.refusedState("P6 ninth line", r, () -> r.addLine(0, 0));
        CHECKS.refusedIndex("P6 ninth line, of no account", r, () -> r.addLine(2, 0));
        CHECKS.refusedIndex("P6 ninth line, of no tariff", r, () -> r.addLine(0, 2));
    }

    private static void promise07SetTariff() {
        PhoneRater r = oneLine();
        r.addTariff(0, 6, 6, 1, 1);
        r.addLine(0, 0);
        r.addCall(0, 0, 60, 0);
        r.addCall(1, 0, 60, 0);
        CHECKS.due("P7 the tariff before", 0, () -> r.setTariff(0, 1));
        CHECKS.due("P7 calls already there have the new tariff", 6, () -> r.told(0, 3));
        CHECKS.due("P7 the other line keeps its tariff", 40, () -> r.told(1, 3));
        CHECKS.due("P7 the same tariff again", 1, () -> r.setTariff(0, 1));
        r.addCall(0, 0, 60, 0);
        CHECKS.due("P7 later calls have the new tariff", 6, () -> r.told(2, 3));
        CHECKS.refusedIndex("P7 line -1", r, () -> r.setTariff(-1, 0));
        CHECKS.refusedIndex("P7 line 2 of 2", r, () -> r.setTariff(2, 0));
        CHECKS.refusedIndex("P7 tariff -1", r, () -> r.setTariff(0, -1));
        CHECKS.refusedIndex("P7 tariff 2 of 2", r, () -> r.setTariff(0, 2));
        CHECKS.due("P7 and back", 1, () -> r.setTariff(0, 0));
        CHECKS.due("P7 calls have the old tariff again", 40, () -> r.told(0, 3));
    }

    private static void promise08SetBundle() {
        PhoneRater r = oneLine();
        r.addCall(0, 0, 60, 0);
        CHECKS.due("P8 the bundle before", 0, () -> r.setBundle(0, 100000));
        CHECKS.due("P8 calls already there take from it", 60, () -> r.told(0, 2));
        CHECKS.due("P8 the rest is left", 99940, () -> r.left(0));
        CHECKS.due("P8 the greatest bundle before", 100000, () -> r.setBundle(0, 59));
        CHECKS.due("P8 a smaller bundle frees less", 59, () -> r.told(0, 2));
        CHECKS.refusedIndex("P8 account -1", r, () -> r.setBundle(-1, 0));
        CHECKS.refusedIndex("P8 account 1 of 1", r, () -> r.setBundle(1, 0));
        CHECKS.refusedIndex("P8 no account and a wrong bundle", r, () -> r.setBundle(1, -1));
        CHECKS.refusedArgument("P8 bundle -1", r, () -> r.setBundle(0, -1));
        CHECKS.refusedArgument("P8 bundle 100001", r, () -> r.setBundle(0, 100001));
        CHECKS.due("P8 no bundle again", 59, () -> r.setBundle(0, 0));
        CHECKS.due("P8 without a bundle nothing is free", 0, () -> r.told(0, 2));
        r.addAccount(5, 0, 0);
        CHECKS.due("P8 another account has a bundle of its own", 5, () -> r.setBundle(1, 6));
        CHECKS.due("P8 the first account keeps its bundle", 0, () -> r.setBundle(0, 0));
    }

    private static int bit(boolean holds) {
        return holds ? 1 : 0;
    }
}
