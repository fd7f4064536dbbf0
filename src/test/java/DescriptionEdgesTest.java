/** The sentences of "The public face" and "Description" that name a boundary case: both sides of each edge. */
public final class DescriptionEdgesTest {
    private static final Checks CHECKS = new Checks();

    public static void main(String[] args) {
        last512thCall();
        days();
        minutesOfTheDay();
        weekends();
        firstPeak();
        bothMinutesBelongToThePeak();
        peakNeedsBothDayAndMinute();
        mostOfEachKind();
        zonesAreZeroAtFirst();
        dayFeeOfZeroIsNone();
        threeZones();
        cancelledAtHome();
        cancelledAbroad();
        orderOfBeginnings();
        orderOfNumbers();
        firstInterval();
        nextIntervals();
        bundleBelowAtAndAboveTheBilled();
        bundleGivesBilledSeconds();
        bundleOfTheAccount();
        dayFeeOfTheFirstCall();
        dayFeeOfEachDay();
        dayFeeOfEachLineAndZone();
        first1800InOneCall();
        first1800InSeveralCalls();
        first1800AreBilledSeconds();
        connectionOnlyForChargedSeconds();
        roundedUp();
        rateOfThePeakOrTheZone();
        sumOfAllLines();
        threshold();
        percentage();
        cutTowardsZero();
        roundedToCents();
        refusalsChangeNothing();
        firstNamedException();
        CHECKS.end("DescriptionEdgesTest");
    }

    private static void told(String what, PhoneRater r, int call, int billed, int free, int price, int dayFee) {
        CHECKS.due(what + ": billed", billed, () -> r.told(call, 1));
        CHECKS.due(what + ": free", free, () -> r.told(call, 2));
        CHECKS.due(what + ": price", price, () -> r.told(call, 3));
        CHECKS.due(what + ": day fee", dayFee, () -> r.told(call, 4));
    }

    /** "An object is used for at most 512 calls after it has been made" */
    private static void last512thCall() {
        PhoneRater r = Raters.plain();
        r.addCall(0, 0, 1, 0);
        for (int i = 5; i < 511; i++) {
            r.correct(0, i);
        }
        CHECKS.due("call 511", 510, () -> r.correct(0, 7200));
        CHECKS.due("call 512", 7200, () -> r.sum(0));
        PhoneRater refusing = Raters.plain();
        for (int i = 4; i <= 511; i++) {
            int wrong = -i;
            CHECKS.due("a refused call", -1, () -> {
                try {
                    return refusing.callAt(wrong);
                } catch (IndexOutOfBoundsException e) {
                    return -1;
                }
            });
        }
        CHECKS.due("call 512 behind 508 refused ones", 0, () -> refusing.addCall(0, 0, 1, 0));
    }

    /** "The month has 30 days, 0 to 29; a call begins at some minute from 0 to 43199; its day is this divided by 1440" */
    private static void days() {
        for (int day = 0; day < 30; day++) {
            PhoneRater r = Raters.plain();
            int asked = day;
            r.addCall(0, 1440 * day, 1, 0);
            r.addCall(0, 1440 * day + 1439, 10, 0);
            if (day > 0) {
                r.addCall(0, 1440 * day - 1, 100, 0);
                CHECKS.due("the last minute before day " + day, 100, () -> r.daySum(asked - 1));
            }
            if (day < 29) {
                r.addCall(0, 1440 * day + 1440, 1000, 0);
                CHECKS.due("the first minute behind day " + day, 1000, () -> r.daySum(asked + 1));
            }
            CHECKS.due("the first and the last minute of day " + day, 11, () -> r.daySum(asked));
        }
    }

    /** "its minute of the day the remainder" */
    private static void minutesOfTheDay() {
        inPeak("the first minute of the day", 0, 0, new int[] {0, 1, 1439, 1440, 1441, 40319, 40320}, 1, 0, 0, 1, 0, 0, 1);
        inPeak("the last minute of the day", 1439, 1439, new int[] {0, 1438, 1439, 1440, 2879, 43198, 43199},
                0, 0, 1, 0, 1, 0, 1);
    }

    private static void inPeak(String what, int first, int last, int[] minutes, int... want) {
        PhoneRater r = Raters.plain();
        r.setPeak(first, last);
        for (int i = 0; i < minutes.length; i++) {
            int call = i;
            r.addCall(0, minutes[i], 1, 0);
            CHECKS.due(what + ", minute " + minutes[i], want[i], () -> Edges.bit(r.isPeak(call)));
        }
    }

    /** "The days whose remainder by 7 is 5 or 6 are weekends." */
    private static void weekends() {
        String weekends = " 5 6 12 13 19 20 26 27 ";
        PhoneRater r = Raters.plain();
        r.setPeak(0, 1439);
        for (int day = 0; day < 30; day++) {
            int call = 2 * day;
            int want = weekends.contains(" " + day + " ") ? 0 : 1;
            r.addCall(0, 1440 * day, 1, 0);
            r.addCall(0, 1440 * day + 1439, 1, 0);
            CHECKS.due("the first minute of day " + day, want, () -> Edges.bit(r.isPeak(call)));
            CHECKS.due("the last minute of day " + day, want, () -> Edges.bit(r.isPeak(call + 1)));
        }
    }

    /** "at first it is 480 to 1079" */
    private static void firstPeak() {
        PhoneRater r = Raters.plain();
        int[] minutes = {0, 479, 480, 1079, 1080, 1439};
        int[] want = {0, 0, 1, 1, 0, 0};
        for (int i = 0; i < minutes.length; i++) {
            int call = i;
            r.addCall(0, minutes[i], 1, 0);
            CHECKS.due("the first peak at minute " + minutes[i], want[i], () -> Edges.bit(r.isPeak(call)));
        }
        CHECKS.due("480 to 1079 is no other peak", 0, () -> Edges.bit(r.setPeak(480, 1079)));
    }

    /** "from a first minute of the day to a last one (both belong to it)" */
    private static void bothMinutesBelongToThePeak() {
        inPeak("a peak of three minutes", 700, 702, new int[] {699, 700, 701, 702, 703}, 0, 1, 1, 1, 0);
        inPeak("a peak of one minute", 700, 700, new int[] {699, 700, 701}, 0, 1, 0);
        inPeak("a peak of the whole day", 0, 1439, new int[] {0, 700, 1439}, 1, 1, 1);
    }

    /** "A call is in the peak if its day is not of a weekend, and its minute of the day is in the peak." */
    private static void peakNeedsBothDayAndMinute() {
        int friday = 4 * 1440;
        int saturday = 5 * 1440;
        int monday = 7 * 1440;
        inPeak("both, one, none", 480, 1079, new int[] {friday + 480, saturday + 480, friday + 479, saturday + 479},
                1, 0, 0, 0);
        inPeak("both, one, none", 480, 1079, new int[] {monday + 1079, monday - 361, monday + 1080, monday - 360},
                1, 0, 0, 0);
    }

    /** "There are at most 5 / 4 / 8 / 60, numbered from 0 in the order of their creation." */
    private static void mostOfEachKind() {
        PhoneRater r = new PhoneRater();
        for (int i = 0; i < 5; i++) {
            CHECKS.due("tariff", i, () -> r.addTariff(0, 0, 0, 1, 1));
        }
        CHECKS.refusedState("tariff 5", r, () -> r.addTariff(0, 0, 0, 1, 1));
        for (int i = 0; i < 4; i++) {
            CHECKS.due("account", i, () -> r.addAccount(0, 0, 0));
        }
        CHECKS.refusedState("account 4", r, () -> r.addAccount(0, 0, 0));
        for (int i = 0; i < 8; i++) {
            CHECKS.due("line", i, () -> r.addLine(0, 0));
        }
        CHECKS.refusedState("line 8", r, () -> r.addLine(0, 0));
        for (int i = 0; i < 60; i++) {
            CHECKS.due("call", i, () -> r.addCall(0, 0, 1, 0));
        }
        CHECKS.refusedState("call 60", r, () -> r.addCall(0, 0, 1, 0));
    }

    /** "a rate for a minute and a day fee (all 0 at first ...)" */
    private static void zonesAreZeroAtFirst() {
        for (int zone = 1; zone <= 2; zone++) {
            PhoneRater r = new PhoneRater();
            int asked = zone;
            r.addTariff(3, 60, 60, 1, 1);
            r.addAccount(0, 1000000, 0);
            r.addLine(0, 0);
            r.addCall(0, 480, 7200, zone);
            told("zone " + zone + " at first", r, 0, 7200, 0, 3, 0);
            CHECKS.due("no day fee in zone " + zone + " at first", 0, () -> r.dayFees(0, asked));
            CHECKS.due("the rate of zone " + zone + " at first", 0, () -> r.setZone(0, asked, 1, 1));
            told("zone " + zone + " with 1 and 1", r, 0, 7200, 1800, 1 + 3 + 90, 1);
        }
    }

    /** "a day fee of 0 means that there is none" */
    private static void dayFeeOfZeroIsNone() {
        PhoneRater r = Raters.plain();
        r.addCall(0, 0, 1800, 1);
        r.setZone(0, 1, 60, 0);
        told("a day fee of 0", r, 0, 1800, 0, 1800, 0);
        CHECKS.due("a day fee of 0 is not counted", 0, () -> r.dayFees(0, 1));
        r.setZone(0, 1, 60, 1);
        told("a day fee of 1", r, 0, 1800, 1800, 1, 1);
        CHECKS.due("a day fee of 1 is counted", 1, () -> r.dayFees(0, 1));
    }

    /** "its zone: 0 at home, 1 or 2" */
    private static void threeZones() {
        PhoneRater r = Raters.withBundle(10);
        r.setZone(0, 1, 120, 7);
        r.setZone(0, 2, 180, 0);
        r.addCall(0, 0, 60, 0);
        r.addCall(0, 0, 60, 1);
        r.addCall(0, 0, 60, 2);
        told("zone 0", r, 0, 60, 10, 50, 0);
        told("zone 1", r, 1, 60, 60, 7, 7);
        told("zone 2", r, 2, 60, 0, 180, 0);
        CHECKS.refusedArgument("zone 3", r, () -> r.addCall(0, 0, 60, 3));
        CHECKS.refusedArgument("zone -1", r, () -> r.addCall(0, 0, 60, -1));
    }

    /** "A call with 0 seconds is cancelled: it counts for nothing, and its price is 0." */
    private static void cancelledAtHome() {
        PhoneRater r = Raters.withBundle(60);
        r.addTariff(9, 60, 60, 60, 60);
        r.setTariff(0, 1);
        r.addCall(0, 10, 600, 0);
        r.addCall(0, 20, 60, 0);
        r.correct(0, 1);
        told("1 second counts", r, 0, 60, 60, 0, 0);
        told("behind 1 second", r, 1, 60, 0, 69, 0);
        CHECKS.due("what 1 second leaves", 0, () -> r.left(0));
        r.correct(0, 0);
        told("0 seconds count for nothing", r, 0, 0, 0, 0, 0);
        told("behind 0 seconds", r, 1, 60, 60, 0, 0);
        r.correct(1, 0);
        CHECKS.due("what two cancelled calls leave", 60, () -> r.left(0));
        CHECKS.due("a sum of cancelled calls", 0, () -> r.sum(0));
    }

    private static void cancelledAbroad() {
        PhoneRater r = Raters.plain();
        r.setZone(0, 1, 60, 100);
        r.addCall(0, 10, 1800, 1);
        r.addCall(0, 20, 5, 1);
        told("behind 1800 seconds", r, 1, 5, 0, 5, 0);
        r.correct(0, 1);
        told("1 second costs the day fee", r, 0, 1, 1, 100, 100);
        told("behind 1 second", r, 1, 5, 5, 0, 0);
        r.correct(0, 0);
        told("0 seconds cost no day fee", r, 0, 0, 0, 0, 0);
        told("behind 0 seconds", r, 1, 5, 5, 100, 100);
    }

    /** "Calls are rated in the order of their beginnings" */
    private static void orderOfBeginnings() {
        PhoneRater r = Raters.withBundle(60);
        r.addCall(0, 11, 60, 0);
        told("alone", r, 0, 60, 60, 0, 0);
        r.addCall(0, 12, 60, 0);
        told("a minute later", r, 1, 60, 0, 60, 0);
        r.addCall(0, 10, 60, 0);
        told("a minute earlier", r, 2, 60, 60, 0, 0);
        told("no longer the first", r, 0, 60, 0, 60, 0);
        PhoneRater ends = Raters.withBundle(60);
        ends.addCall(0, 43199, 60, 0);
        ends.addCall(0, 0, 60, 0);
        told("the last minute of the month", ends, 0, 60, 0, 60, 0);
        told("the first minute of the month", ends, 1, 60, 60, 0, 0);
    }

    /** "of several with the same one in that of their numbers" */
    private static void orderOfNumbers() {
        PhoneRater r = Raters.withBundle(60);
        r.addCall(0, 10, 60, 0);
        r.addCall(0, 10, 60, 0);
        r.addCall(0, 10, 60, 0);
        told("call 0", r, 0, 60, 60, 0, 0);
        told("call 1", r, 1, 60, 0, 60, 0);
        r.correct(0, 0);
        told("call 1 behind a cancelled one", r, 1, 60, 60, 0, 0);
        told("call 2", r, 2, 60, 0, 60, 0);
        r.correct(0, 60);
        told("call 0 again", r, 0, 60, 60, 0, 0);
        told("call 1 again", r, 1, 60, 0, 60, 0);
    }

    private static void billed(int first, int next, int seconds, int want) {
        PhoneRater r = new PhoneRater();
        r.addTariff(0, 0, 0, first, next);
        r.addAccount(0, 0, 0);
        r.addLine(0, 0);
        r.addCall(0, 0, seconds, 0);
        CHECKS.due("billed of " + seconds + " by " + first + " and " + next, want, () -> r.told(0, 1));
    }

    /** "The billed seconds of a call are the first interval, if it has no more seconds than this" */
    private static void firstInterval() {
        billed(60, 7, 1, 60);
        billed(60, 7, 59, 60);
        billed(60, 7, 60, 60);
        billed(60, 7, 61, 67);
        billed(1, 300, 1, 1);
        billed(1, 300, 2, 301);
        billed(300, 1, 1, 300);
        billed(300, 1, 300, 300);
        billed(300, 1, 301, 301);
    }

    /** "otherwise the first interval and as many next intervals as are needed" */
    private static void nextIntervals() {
        billed(60, 7, 67, 67);
        billed(60, 7, 68, 74);
        billed(60, 7, 7200, 7200);
        billed(60, 7, 7194, 7200);
        billed(60, 7, 7193, 7193);
        billed(1, 300, 301, 301);
        billed(1, 300, 302, 601);
        billed(1, 300, 7200, 7201);
        billed(299, 300, 7200, 7499);
        billed(300, 300, 7200, 7200);
        billed(300, 300, 6900, 6900);
        billed(300, 300, 6901, 7200);
        billed(1, 1, 7200, 7200);
    }

    /** "at home: as many as are left in the bundle of the account, which are taken from it" */
    private static void bundleBelowAtAndAboveTheBilled() {
        int[][] wants = {{0, 0, 60, 0}, {1, 1, 59, 0}, {59, 59, 1, 0}, {60, 60, 0, 0}, {61, 60, 0, 1}, {100000, 60, 0, 99940}};
        for (int[] w : wants) {
            PhoneRater r = Raters.withBundle(w[0]);
            r.addCall(0, 0, 60, 0);
            told("60 seconds and a bundle of " + w[0], r, 0, 60, w[1], w[2], 0);
            CHECKS.due("left of a bundle of " + w[0], w[3], () -> r.left(0));
        }
    }

    private static void bundleGivesBilledSeconds() {
        PhoneRater r = Raters.withBundle(61);
        r.addTariff(0, 60, 60, 60, 60);
        r.setTariff(0, 1);
        r.addCall(0, 0, 1, 0);
        r.addCall(0, 1, 1, 0);
        told("the first takes a whole interval", r, 0, 60, 60, 0, 0);
        told("for the second a second is left", r, 1, 60, 1, 59, 0);
    }

    private static void bundleOfTheAccount() {
        PhoneRater r = Raters.withBundle(60);
        r.addAccount(60, 1000000, 0);
        r.addLine(0, 0);
        r.addLine(1, 0);
        r.addCall(0, 0, 60, 0);
        r.addCall(1, 1, 60, 0);
        r.addCall(2, 2, 60, 0);
        told("another line of the account shares the bundle", r, 1, 60, 0, 60, 0);
        told("a line of another account does not", r, 2, 60, 60, 0, 0);
    }

    /** "the first call of a line in this zone on a day (that is not cancelled) costs the day fee in addition" */
    private static void dayFeeOfTheFirstCall() {
        PhoneRater r = Raters.plain();
        r.setZone(0, 1, 60, 100);
        r.addCall(0, 11, 1, 1);
        told("the only call", r, 0, 1, 1, 100, 100);
        r.addCall(0, 11, 1, 1);
        told("the second call of the same minute", r, 1, 1, 1, 0, 0);
        r.addCall(0, 10, 1801, 1);
        told("an earlier call, with a second to pay", r, 2, 1801, 1800, 101, 100);
        told("no longer the first call", r, 0, 1, 0, 1, 0);
        r.correct(2, 0);
        told("the first call that is not cancelled", r, 0, 1, 1, 100, 100);
        r.correct(0, 0);
        told("the next one that is not cancelled", r, 1, 1, 1, 100, 100);
        r.correct(1, 0);
        CHECKS.due("all are cancelled", 0, () -> r.dayFees(0, 1));
        CHECKS.due("all are cancelled", 0, () -> r.sum(0));
    }

    private static void dayFeeOfEachDay() {
        PhoneRater r = Raters.plain();
        r.setZone(0, 1, 60, 100);
        r.addCall(0, 0, 1, 1);
        r.addCall(0, 1439, 1800, 1);
        r.addCall(0, 1440, 1800, 1);
        r.addCall(0, 43199, 1800, 1);
        told("the first minute of the first day", r, 0, 1, 1, 100, 100);
        told("the last minute of the day", r, 1, 1800, 1799, 1, 0);
        told("the first minute of the next day", r, 2, 1800, 1800, 100, 100);
        told("the last minute of the month", r, 3, 1800, 1800, 100, 100);
    }

    private static void dayFeeOfEachLineAndZone() {
        PhoneRater r = Raters.plain();
        r.setZone(0, 1, 60, 100);
        r.setZone(0, 2, 60, 200);
        r.addLine(0, 0);
        r.addCall(0, 0, 1800, 1);
        r.addCall(1, 0, 1800, 1);
        r.addCall(0, 0, 1800, 2);
        r.addCall(0, 0, 1, 0);
        told("a line and zone 1", r, 0, 1800, 1800, 100, 100);
        told("another line", r, 1, 1800, 1800, 100, 100);
        told("zone 2", r, 2, 1800, 1800, 200, 200);
        told("at home there is no day fee", r, 3, 1, 0, 1, 0);
    }

    /** "of the billed seconds of the calls of this line in this zone on this day the first 1800 are free" */
    private static void first1800InOneCall() {
        int[][] wants = {{1, 1, 5}, {1799, 1799, 5}, {1800, 1800, 5}, {1801, 1800, 6}, {7200, 1800, 5405}};
        for (int[] w : wants) {
            PhoneRater r = Raters.plain();
            r.setZone(0, 2, 60, 5);
            r.addCall(0, 0, w[0], 2);
            told("a call of " + w[0] + " seconds", r, 0, w[0], w[1], w[2], 5);
        }
    }

    private static void first1800InSeveralCalls() {
        PhoneRater r = Raters.plain();
        r.setZone(0, 1, 60, 5);
        r.addCall(0, 100, 900, 1);
        r.addCall(0, 200, 899, 1);
        r.addCall(0, 300, 1, 1);
        r.addCall(0, 400, 1, 1);
        told("1 to 900", r, 0, 900, 900, 5, 5);
        told("901 to 1799", r, 1, 899, 899, 0, 0);
        told("1800", r, 2, 1, 1, 0, 0);
        told("1801", r, 3, 1, 0, 1, 0);
        r.correct(1, 898);
        told("now 1800", r, 3, 1, 1, 0, 0);
        r.correct(1, 901);
        told("900 to 1801", r, 1, 901, 900, 1, 0);
        told("behind 1801", r, 2, 1, 0, 1, 0);
    }

    private static void first1800AreBilledSeconds() {
        PhoneRater r = new PhoneRater();
        r.addTariff(0, 0, 0, 300, 300);
        r.setZone(0, 1, 60, 5);
        r.addAccount(0, 1000000, 0);
        r.addLine(0, 0);
        for (int i = 0; i < 7; i++) {
            r.addCall(0, i, 1, 1);
        }
        told("the sixth second ends the 1800", r, 5, 300, 300, 0, 0);
        told("the seventh is charged", r, 6, 300, 0, 300, 0);
        PhoneRater one = new PhoneRater();
        one.addTariff(0, 0, 0, 300, 300);
        one.setZone(0, 1, 60, 5);
        one.addAccount(0, 1000000, 0);
        one.addLine(0, 0);
        one.addCall(0, 0, 1800, 1);
        told("1800 seconds are billed as they are", one, 0, 1800, 1800, 5, 5);
        one.correct(0, 1801);
        told("1801 seconds are billed as 2100", one, 0, 2100, 1800, 305, 5);
    }

    /** "What is not free is charged: if this is more than 0 seconds, the price has the connection fee" */
    private static void connectionOnlyForChargedSeconds() {
        PhoneRater r = new PhoneRater();
        r.addTariff(7, 60, 60, 1, 1);
        r.setZone(0, 1, 60, 5);
        r.addAccount(60, 1000000, 0);
        r.addLine(0, 0);
        r.addCall(0, 0, 60, 0);
        r.addCall(0, 1, 1800, 1);
        told("at home 0 seconds are charged", r, 0, 60, 60, 0, 0);
        told("abroad 0 seconds are charged", r, 1, 1800, 1800, 5, 5);
        r.correct(0, 61);
        r.correct(1, 1801);
        told("at home 1 second is charged", r, 0, 61, 60, 8, 0);
        told("abroad 1 second is charged", r, 1, 1801, 1800, 13, 5);
    }

    /** "the charged seconds times the rate, divided by 60 (rounded up)" */
    private static void roundedUp() {
        int[][] wants = {{1, 1, 1}, {1, 59, 1}, {1, 60, 1}, {1, 61, 2}, {1, 120, 2}, {1, 121, 3}, {0, 7200, 0}, {59, 1, 1},
            {60, 1, 1}, {61, 1, 2}, {10000, 1, 167}, {10000, 3, 500}, {10000, 7200, 1200000}, {10000, 7199, 1199834}};
        for (int[] w : wants) {
            PhoneRater home = new PhoneRater();
            home.addTariff(0, w[0], 0, 1, 1);
            home.setZone(0, 1, w[0], 0);
            home.addAccount(0, 1000000, 0);
            home.addLine(0, 0);
            home.addCall(0, 480, w[1], 0);
            home.addCall(0, 480, w[1], 1);
            CHECKS.due("at home " + w[1] + " seconds by " + w[0], w[2], () -> home.told(0, 3));
            CHECKS.due("abroad " + w[1] + " seconds by " + w[0], w[2], () -> home.told(1, 3));
        }
    }

    /** "the rate is that of the zone, or at home that of the peak or of the time outside of it" */
    private static void rateOfThePeakOrTheZone() {
        PhoneRater r = new PhoneRater();
        r.addTariff(0, 60, 120, 1, 1);
        r.setZone(0, 1, 180, 0);
        r.setZone(0, 2, 240, 0);
        r.addAccount(0, 1000000, 0);
        r.addLine(0, 0);
        int[] minutes = {479, 480, 1079, 1080};
        int[] wants = {120, 60, 60, 120};
        for (int i = 0; i < minutes.length; i++) {
            int call = 3 * i;
            r.addCall(0, minutes[i], 60, 0);
            r.addCall(0, minutes[i], 60, 1);
            r.addCall(0, minutes[i], 60, 2);
            CHECKS.due("at home at " + minutes[i], wants[i], () -> r.told(call, 3));
            CHECKS.due("in zone 1 at " + minutes[i], 180, () -> r.told(call + 1, 3));
            CHECKS.due("in zone 2 at " + minutes[i], 240, () -> r.told(call + 2, 3));
        }
    }

    /** "The sum of an account is the sum of the prices of all calls of its lines." */
    private static void sumOfAllLines() {
        PhoneRater r = Raters.plain();
        r.addAccount(0, 1000000, 0);
        CHECKS.due("no calls", 0, () -> r.sum(0));
        for (int l = 1; l < 8; l++) {
            r.addLine(l == 7 ? 1 : 0, 0);
        }
        for (int l = 0; l < 8; l++) {
            r.addCall(l, 0, 1 << l, 0);
        }
        CHECKS.due("the first seven lines", 127, () -> r.sum(0));
        CHECKS.due("the last line", 128, () -> r.sum(1));
    }

    private static void totalIs(int sum, int threshold, int percent, int want) {
        PhoneRater r = new PhoneRater();
        r.addTariff(0, 60, 60, 1, 1);
        r.addAccount(0, threshold, percent);
        r.addLine(0, 0);
        r.addCall(0, 0, sum, 0);
        CHECKS.due("the total of " + sum + " with " + percent + " percent above " + threshold, want, () -> r.total(0));
    }

    /** "Of what it is more than the threshold, the percentage is taken off" */
    private static void threshold() {
        totalIs(1004, 1005, 100, 100);
        totalIs(1005, 1005, 100, 101);
        totalIs(1006, 1005, 100, 101);
        totalIs(1005, 1004, 100, 100);
        totalIs(1005, 1003, 50, 100);
        totalIs(5, 0, 100, 0);
        totalIs(7200, 1000000, 100, 720);
        PhoneRater r = new PhoneRater();
        r.addTariff(9994, 9994, 9994, 1, 1);
        r.addAccount(0, 1000000, 100);
        r.addLine(0, 0);
        r.addCall(0, 0, 5944, 0);
        CHECKS.due("the sum below the greatest threshold", 1000067, () -> r.sum(0));
        CHECKS.due("the greatest threshold stays", 100000, () -> r.total(0));
    }

    private static void percentage() {
        totalIs(1100, 100, 0, 110);
        totalIs(1100, 100, 1, 109);
        totalIs(1100, 100, 50, 60);
        totalIs(1100, 100, 99, 11);
        totalIs(1100, 100, 100, 10);
    }

    /** "(cut towards 0)" */
    private static void cutTowardsZero() {
        totalIs(15, 0, 6, 2);
        totalIs(15, 0, 7, 1);
        totalIs(105, 5, 1, 10);
        totalIs(105, 6, 1, 11);
        totalIs(5, 4, 99, 1);
        totalIs(5, 4, 100, 0);
    }

    /** "the rest in cents, rounded to the nearest one (half a cent upwards)" */
    private static void roundedToCents() {
        totalIs(1, 0, 0, 0);
        totalIs(4, 0, 0, 0);
        totalIs(5, 0, 0, 1);
        totalIs(9, 0, 0, 1);
        totalIs(10, 0, 0, 1);
        totalIs(14, 0, 0, 1);
        totalIs(15, 0, 0, 2);
        totalIs(7194, 0, 0, 719);
        totalIs(7195, 0, 0, 720);
    }

    /** "A method that throws an exception changes nothing." */
    private static void refusalsChangeNothing() {
        Edges full = new Edges(CHECKS, Raters::full);
        full.refused(Edges.STATE, "full addTariff", (r, a) -> r.addTariff(a[0], a[1], a[2], a[3], a[4]), 1, 1, 1, 1, 1);
        full.refused(Edges.INDEX, "full setZone", (r, a) -> r.setZone(a[0], a[1], a[2], a[3]), 5, 1, 9999, 9999);
        full.refused(Edges.ARGUMENT, "full setZone", (r, a) -> r.setZone(a[0], a[1], a[2], a[3]), 0, 1, 9999, 10001);
        full.refused(Edges.ARGUMENT, "full setPeak", (r, a) -> Edges.bit(r.setPeak(a[0], a[1])), 0, 1440);
        full.refused(Edges.ARGUMENT, "full setPeak", (r, a) -> Edges.bit(r.setPeak(a[0], a[1])), 900, 899);
        full.refused(Edges.STATE, "full addAccount", (r, a) -> r.addAccount(a[0], a[1], a[2]), 1, 1, 1);
        full.refused(Edges.STATE, "full addLine", (r, a) -> r.addLine(a[0], a[1]), 0, 0);
        full.refused(Edges.INDEX, "full setTariff", (r, a) -> r.setTariff(a[0], a[1]), 0, 5);
        full.refused(Edges.INDEX, "full setTariff", (r, a) -> r.setTariff(a[0], a[1]), 8, 1);
        full.refused(Edges.ARGUMENT, "full setBundle", (r, a) -> r.setBundle(a[0], a[1]), 0, 100001);
        full.refused(Edges.STATE, "full addCall", (r, a) -> r.addCall(a[0], a[1], a[2], a[3]), 0, 0, 7200, 0);
        full.refused(Edges.ARGUMENT, "full correct", (r, a) -> r.correct(a[0], a[1]), 0, 7201);
        full.refused(Edges.INDEX, "full totalWith", (r, a) -> r.totalWith(a[0], a[1]), 0, 5);
        full.refused(Edges.INDEX, "full totalWith", (r, a) -> r.totalWith(a[0], a[1]), 8, 0);
        full.refused(Edges.INDEX, "full bestTariff", (r, a) -> r.bestTariff(a[0]), 8);
    }

    /** "If several exceptions apply, the one that is named first is thrown." */
    private static void firstNamedException() {
        Edges full = new Edges(CHECKS, Raters::full);
        Edges.Ask addTariff = (r, a) -> r.addTariff(a[0], a[1], a[2], a[3], a[4]);
        for (int at = 0; at < 5; at++) {
            int[] wrong = {1, 1, 1, 1, 1};
            wrong[at] = -1;
            full.refused(Edges.ARGUMENT, "full and wrong addTariff", addTariff, wrong);
        }
        Edges.Ask setZone = (r, a) -> r.setZone(a[0], a[1], a[2], a[3]);
        full.refused(Edges.INDEX, "setZone: no tariff, wrong rate", setZone, 5, 1, -1, 0);
        full.refused(Edges.INDEX, "setZone: no tariff, wrong day fee", setZone, -1, 1, 0, 10001);
        full.refused(Edges.INDEX, "setZone: no zone, wrong rate", setZone, 0, 0, 10001, 0);
        full.refused(Edges.INDEX, "setZone: no zone, wrong day fee", setZone, 0, 3, 0, -1);
        Edges.Ask addAccount = (r, a) -> r.addAccount(a[0], a[1], a[2]);
        full.refused(Edges.ARGUMENT, "full addAccount, wrong bundle", addAccount, -1, 0, 0);
        full.refused(Edges.ARGUMENT, "full addAccount, wrong threshold", addAccount, 0, 1000001, 0);
        full.refused(Edges.ARGUMENT, "full addAccount, wrong percentage", addAccount, 0, 0, 101);
        full.refused(Edges.INDEX, "full addLine, no account", (r, a) -> r.addLine(a[0], a[1]), 4, 0);
        full.refused(Edges.INDEX, "full addLine, no tariff", (r, a) -> r.addLine(a[0], a[1]), 0, 5);
        full.refused(Edges.INDEX, "setBundle: no account, wrong bundle", (r, a) -> r.setBundle(a[0], a[1]), 4, -1);
        Edges.Ask addCall = (r, a) -> r.addCall(a[0], a[1], a[2], a[3]);
        full.refused(Edges.INDEX, "full addCall, no line", addCall, 8, 0, 1, 0);
        full.refused(Edges.INDEX, "full addCall, no line, wrong beginning", addCall, -1, -1, 1, 0);
        full.refused(Edges.INDEX, "full addCall, no line, wrong seconds", addCall, 8, 0, 0, 0);
        full.refused(Edges.INDEX, "full addCall, no line, wrong zone", addCall, 8, 0, 1, 3);
        full.refused(Edges.ARGUMENT, "full addCall, wrong beginning", addCall, 0, 43200, 1, 0);
        full.refused(Edges.ARGUMENT, "full addCall, wrong seconds", addCall, 0, 0, 7201, 0);
        full.refused(Edges.ARGUMENT, "full addCall, wrong zone", addCall, 0, 0, 1, -1);
        full.refused(Edges.INDEX, "correct: no call, wrong seconds", (r, a) -> r.correct(a[0], a[1]), 60, 7201);
    }
}
