/** Promises 9 to 15: each sentence that names a boundary case, on both sides of the edge. */
public final class CallsEdgesTest {
    private static final Checks CHECKS = new Checks();
    private static final Edges EMPTY = new Edges(CHECKS, Raters::empty);
    private static final Edges NO_CALLS = new Edges(CHECKS, Raters::plain);
    private static final Edges SOME = new Edges(CHECKS, Raters::some);
    private static final Edges FULL = new Edges(CHECKS, Raters::full);

    private static final Edges.Ask ADD_CALL = (r, a) -> r.addCall(a[0], a[1], a[2], a[3]);
    private static final Edges.Ask CORRECT = (r, a) -> r.correct(a[0], a[1]);
    private static final Edges.Ask CALL_AT = (r, a) -> r.callAt(a[0]);
    private static final Edges.Ask IS_PEAK = (r, a) -> Edges.bit(r.isPeak(a[0]));
    private static final Edges.Ask TOLD = (r, a) -> r.told(a[0], a[1]);

    public static void main(String[] args) {
        promise09Lines();
        promise09Ranges();
        promise09EndsAreUsed();
        promise09SixtiethAndSixtyFirst();
        promise10Calls();
        promise10Seconds();
        promise10SecondsBefore();
        promise11EmptyToFull();
        promise11CancelledIncluded();
        promise12Ranges();
        promise12Order();
        promise12CancelledIncluded();
        promise13Ranges();
        promise13PeakAndCancelled();
        promise14Ranges();
        promise14Cancelled();
        promise14DayFeeInThePrice();
        promise15NoCalls();
        promise15Greatest();
        promise15OfSeveralTheFirst();
        promise15OnlyCancelled();
        questionsChangeNothing();
        CHECKS.end("CallsEdgesTest");
    }

    /** "if there is no such line" */
    private static void promise09Lines() {
        EMPTY.range(Edges.INDEX, "P9 addCall", ADD_CALL, new int[] {0, 0, 1, 0}, 0, 0, -1);
        NO_CALLS.range(Edges.INDEX, "P9 addCall", ADD_CALL, new int[] {0, 0, 1, 0}, 0, 0, 0);
        SOME.range(Edges.INDEX, "P9 addCall", ADD_CALL, new int[] {0, 0, 1, 0}, 0, 0, 1);
        Edges eightLines = new Edges(CHECKS, CallsEdgesTest::eightLines);
        eightLines.range(Edges.INDEX, "P9 addCall", ADD_CALL, new int[] {0, 0, 1, 0}, 0, 0, 7);
    }

    private static PhoneRater eightLines() {
        PhoneRater r = Raters.plain();
        for (int line = 1; line < 8; line++) {
            r.addLine(0, 0);
        }
        return r;
    }

    /** "if minute is not 0 to 43199, seconds is not 1 to 7200, or zone is not 0 to 2" */
    private static void promise09Ranges() {
        for (Edges edges : new Edges[] {NO_CALLS, SOME}) {
            for (int zone = 0; zone <= 2; zone++) {
                edges.range(Edges.ARGUMENT, "P9 addCall", ADD_CALL, new int[] {0, 5, 5, zone}, 1, 0, 43199);
                edges.range(Edges.ARGUMENT, "P9 addCall", ADD_CALL, new int[] {0, 5, 5, zone}, 2, 1, 7200);
            }
            edges.range(Edges.ARGUMENT, "P9 addCall", ADD_CALL, new int[] {0, 5, 5, 0}, 3, 0, 2);
        }
    }

    private static void promise09EndsAreUsed() {
        PhoneRater r = eightLines();
        r.setZone(0, 1, 120, 0);
        r.setZone(0, 2, 180, 0);
        CHECKS.due("P9 the least of all", 0, () -> r.addCall(0, 0, 1, 0));
        CHECKS.due("P9 the greatest of all", 1, () -> r.addCall(7, 43199, 7200, 2));
        CHECKS.due("P9 the least line, minute and seconds", 1, () -> r.lineSum(0));
        CHECKS.due("P9 the first day", 1, () -> r.daySum(0));
        CHECKS.due("P9 the greatest line, seconds and zone", 21600, () -> r.lineSum(7));
        CHECKS.due("P9 the last day", 21600, () -> r.daySum(29));
    }

    /** "if there are 60 calls" */
    private static void promise09SixtiethAndSixtyFirst() {
        PhoneRater r = Raters.some();
        for (int call = 6; call < 60; call++) {
            CHECKS.due("P9 call " + call, call, () -> r.addCall(0, 0, 1, 0));
        }
        CHECKS.refusedState("P9 call 60", r, () -> r.addCall(0, 0, 1, 0));
        CHECKS.refusedIndex("P9 there is no call 60", r, () -> r.told(60, 0));
        CHECKS.due("P9 call 59 is there", 1, () -> r.told(59, 0));
        for (int call = 0; call < 60; call++) {
            r.correct(call, 0);
        }
        CHECKS.refusedState("P9 cancelled calls make no room", r, () -> r.addCall(0, 0, 1, 0));
        FULL.refused(Edges.STATE, "P9 call 60", ADD_CALL, 0, 0, 1, 0);
        FULL.refused(Edges.STATE, "P9 call 60", ADD_CALL, 7, 43199, 7200, 2);
    }

    /** "if there is no such call" */
    private static void promise10Calls() {
        EMPTY.range(Edges.INDEX, "P10 correct", CORRECT, new int[] {0, 5}, 0, 0, -1);
        NO_CALLS.range(Edges.INDEX, "P10 correct", CORRECT, new int[] {0, 5}, 0, 0, -1);
        SOME.range(Edges.INDEX, "P10 correct", CORRECT, new int[] {0, 5}, 0, 0, 5);
        FULL.range(Edges.INDEX, "P10 correct", CORRECT, new int[] {0, 5}, 0, 0, 59);
    }

    /** "its seconds; 0 to cancel it", "if seconds is not 0 to 7200" */
    private static void promise10Seconds() {
        for (int call = 0; call < 6; call++) {
            SOME.range(Edges.ARGUMENT, "P10 correct", CORRECT, new int[] {call, 5}, 1, 0, 7200);
        }
        PhoneRater r = Raters.plain();
        r.addCall(0, 0, 100, 0);
        r.correct(0, 7200);
        CHECKS.due("P10 the greatest seconds", 7200, () -> r.sum(0));
        r.correct(0, 1);
        CHECKS.due("P10 1 second", 1, () -> r.sum(0));
        r.correct(0, 0);
        CHECKS.due("P10 cancelled", 0, () -> r.sum(0));
        r.correct(0, 0);
        CHECKS.due("P10 cancelled again", 0, () -> r.sum(0));
        r.correct(0, 2);
        CHECKS.due("P10 no longer cancelled", 2, () -> r.sum(0));
    }

    /** "Returns the seconds before." */
    private static void promise10SecondsBefore() {
        PhoneRater r = Raters.some();
        CHECKS.due("P10 before: those of addCall, not the billed ones", 61, () -> r.correct(3, 7200));
        CHECKS.due("P10 before: the greatest", 7200, () -> r.correct(3, 0));
        CHECKS.refusedArgument("P10 refused", r, () -> r.correct(3, -1));
        CHECKS.refusedArgument("P10 refused", r, () -> r.correct(3, 7201));
        CHECKS.due("P10 before: cancelled, not the refused ones", 0, () -> r.correct(3, 0));
        CHECKS.due("P10 before: cancelled again", 0, () -> r.correct(3, 1));
        CHECKS.due("P10 before: 1", 1, () -> r.correct(3, 1));
        CHECKS.due("P10 before: another call", 1801, () -> r.correct(4, 1));
    }

    /** "Returns the number of calls" */
    private static void promise11EmptyToFull() {
        EMPTY.answers(0, "P11 callCount of an empty rater", (r, a) -> r.callCount());
        NO_CALLS.answers(0, "P11 callCount without calls", (r, a) -> r.callCount());
        PhoneRater r = Raters.plain();
        for (int i = 1; i <= 60; i++) {
            r.addCall(0, 0, 1, 0);
            CHECKS.due("P11 callCount", i, r::callCount);
        }
        CHECKS.refusedState("P11 call 60", r, () -> r.addCall(0, 0, 1, 0));
        CHECKS.due("P11 callCount behind a refused call", 60, r::callCount);
    }

    /** "cancelled ones included" */
    private static void promise11CancelledIncluded() {
        PhoneRater r = Raters.plain();
        r.addCall(0, 0, 1, 0);
        r.correct(0, 0);
        CHECKS.due("P11 the only call is cancelled", 1, r::callCount);
        r.addCall(0, 0, 1, 0);
        CHECKS.due("P11 one is cancelled, one is not", 2, r::callCount);
        r.correct(1, 0);
        CHECKS.due("P11 both are cancelled", 2, r::callCount);
    }

    /** "if there is no such index" */
    private static void promise12Ranges() {
        EMPTY.range(Edges.INDEX, "P12 callAt", CALL_AT, new int[] {0}, 0, 0, -1);
        NO_CALLS.range(Edges.INDEX, "P12 callAt", CALL_AT, new int[] {0}, 0, 0, -1);
        SOME.range(Edges.INDEX, "P12 callAt", CALL_AT, new int[] {0}, 0, 0, 5);
        FULL.range(Edges.INDEX, "P12 callAt", CALL_AT, new int[] {0}, 0, 0, 59);
        PhoneRater r = Raters.plain();
        r.addCall(0, 9, 1, 0);
        CHECKS.due("P12 the only index", 0, () -> r.callAt(0));
        CHECKS.refusedIndex("P12 index 1 of 1", r, () -> r.callAt(1));
        CHECKS.refusedIndex("P12 index -1 of 1", r, () -> r.callAt(-1));
    }

    /** "an index in the order in which calls are rated (...), from 0" */
    private static void promise12Order() {
        orderOf(new int[] {10, 10, 10}, 0, 1, 2);
        orderOf(new int[] {12, 11, 10}, 2, 1, 0);
        orderOf(new int[] {10, 11, 10}, 0, 2, 1);
        orderOf(new int[] {11, 10, 11, 10}, 1, 3, 0, 2);
        orderOf(new int[] {43199, 0, 43198, 1, 43199, 0}, 1, 5, 3, 2, 0, 4);
        orderOf(new int[] {1440, 1439, 2880, 0}, 3, 1, 0, 2);
    }

    private static void orderOf(int[] minutes, int... want) {
        PhoneRater r = Raters.plain();
        for (int minute : minutes) {
            r.addCall(0, minute, 1, 0);
        }
        for (int i = 0; i < want.length; i++) {
            int index = i;
            CHECKS.due("P12 callAt " + i, want[i], () -> r.callAt(index));
        }
    }

    /** "(cancelled ones included)" */
    private static void promise12CancelledIncluded() {
        PhoneRater r = Raters.plain();
        r.addCall(0, 11, 1, 0);
        r.addCall(0, 10, 1, 0);
        r.addCall(0, 12, 1, 0);
        for (int call = 0; call < 3; call++) {
            r.correct(call, 0);
            CHECKS.due("P12 the first, " + call + " cancelled", 1, () -> r.callAt(0));
            CHECKS.due("P12 the second, " + call + " cancelled", 0, () -> r.callAt(1));
            CHECKS.due("P12 the third, " + call + " cancelled", 2, () -> r.callAt(2));
            CHECKS.refusedIndex("P12 index 3 of 3", r, () -> r.callAt(3));
        }
    }

    /** "if there is no such call" */
    private static void promise13Ranges() {
        EMPTY.range(Edges.INDEX, "P13 isPeak", IS_PEAK, new int[] {0}, 0, 0, -1);
        NO_CALLS.range(Edges.INDEX, "P13 isPeak", IS_PEAK, new int[] {0}, 0, 0, -1);
        SOME.range(Edges.INDEX, "P13 isPeak", IS_PEAK, new int[] {0}, 0, 0, 5);
        FULL.range(Edges.INDEX, "P13 isPeak", IS_PEAK, new int[] {0}, 0, 0, 59);
    }

    /** "Returns whether it is in the peak." */
    private static void promise13PeakAndCancelled() {
        PhoneRater r = Raters.plain();
        r.addCall(0, 480, 1, 0);
        r.addCall(0, 479, 1, 0);
        r.addCall(0, 1079, 1, 1);
        r.addCall(0, 1080, 1, 2);
        int[] want = {1, 0, 1, 0};
        for (int i = 0; i < want.length; i++) {
            int call = i;
            CHECKS.due("P13 isPeak of " + i, want[i], () -> Edges.bit(r.isPeak(call)));
            r.correct(call, 0);
            CHECKS.due("P13 isPeak of " + i + ", cancelled", want[i], () -> Edges.bit(r.isPeak(call)));
        }
        r.setPeak(479, 1078);
        for (int i = 0; i < want.length; i++) {
            int call = i;
            CHECKS.due("P13 isPeak in another peak", call == 0 || call == 1 ? 1 : 0, () -> Edges.bit(r.isPeak(call)));
        }
    }

    /** "if there is no such call, or what is not 0 to 4" */
    private static void promise14Ranges() {
        EMPTY.range(Edges.INDEX, "P14 told", TOLD, new int[] {0, 0}, 0, 0, -1);
        NO_CALLS.range(Edges.INDEX, "P14 told", TOLD, new int[] {0, 0}, 0, 0, -1);
        SOME.range(Edges.INDEX, "P14 told", TOLD, new int[] {0, 0}, 0, 0, 5);
        FULL.range(Edges.INDEX, "P14 told", TOLD, new int[] {0, 0}, 0, 0, 59);
        for (int call = 0; call < 6; call++) {
            SOME.range(Edges.INDEX, "P14 told", TOLD, new int[] {call, 0}, 1, 0, 4);
        }
        SOME.refused(Edges.INDEX, "P14 told", TOLD, 6, 5);
        Edges cancelled = new Edges(CHECKS, CallsEdgesTest::cancelledCall);
        cancelled.range(Edges.INDEX, "P14 told of a cancelled call", TOLD, new int[] {0, 0}, 1, 0, 4);
    }

    private static PhoneRater cancelledCall() {
        PhoneRater r = Raters.plain();
        r.addCall(0, 0, 1, 1);
        r.correct(0, 0);
        return r;
    }

    /** "Returns this (0 for all of them if it is cancelled)." */
    private static void promise14Cancelled() {
        for (int zone = 0; zone <= 2; zone++) {
            PhoneRater r = Raters.some();
            int call = r.addCall(0, 0, 7200, zone);
            r.correct(call, 1);
            CHECKS.due("P14 the seconds of a call of 1 second", 1, () -> r.told(call, 0));
            CHECKS.due("P14 the billed ones of a call of 1 second", 60, () -> r.told(call, 1));
            r.correct(call, 0);
            for (int what = 0; what <= 4; what++) {
                int asked = what;
                CHECKS.due("P14 told " + what + " of a cancelled call", 0, () -> r.told(call, asked));
            }
        }
    }

    /** "3 its price, 4 how much of this is a day fee" */
    private static void promise14DayFeeInThePrice() {
        PhoneRater r = Raters.plain();
        r.setZone(0, 1, 60, 10000);
        r.addCall(0, 0, 1800, 1);
        CHECKS.due("P14 the price is the day fee alone", 10000, () -> r.told(0, 3));
        CHECKS.due("P14 the day fee", 10000, () -> r.told(0, 4));
        r.correct(0, 1801);
        CHECKS.due("P14 the price is a tenth more", 10001, () -> r.told(0, 3));
        CHECKS.due("P14 the day fee is the same", 10000, () -> r.told(0, 4));
        r.addCall(0, 1, 1, 1);
        CHECKS.due("P14 the price of the second call", 1, () -> r.told(1, 3));
        CHECKS.due("P14 the second call has no day fee", 0, () -> r.told(1, 4));
    }

    /** "-1 if there are no calls" */
    private static void promise15NoCalls() {
        EMPTY.answers(-1, "P15 dearest of an empty rater", (r, a) -> r.dearest());
        NO_CALLS.answers(-1, "P15 dearest without calls", (r, a) -> r.dearest());
        PhoneRater r = Raters.withBundle(5);
        r.addCall(0, 0, 5, 0);
        CHECKS.due("P15 the only call, for nothing", 0, r::dearest);
    }

    /** "Returns the call with the greatest price" */
    private static void promise15Greatest() {
        PhoneRater r = Raters.plain();
        r.addCall(0, 10, 100, 0);
        r.addCall(0, 20, 101, 0);
        CHECKS.due("P15 the later one is dearer by a tenth", 1, r::dearest);
        r.correct(0, 102);
        CHECKS.due("P15 the earlier one is dearer by a tenth", 0, r::dearest);
        r.correct(1, 103);
        CHECKS.due("P15 the later one again", 1, r::dearest);
        r.correct(1, 0);
        CHECKS.due("P15 a cancelled one is not", 0, r::dearest);
    }

    /** "of several the one that is rated first" */
    private static void promise15OfSeveralTheFirst() {
        PhoneRater r = Raters.plain();
        r.addCall(0, 20, 100, 0);
        r.addCall(0, 10, 100, 0);
        r.addCall(0, 10, 100, 0);
        r.addCall(0, 30, 100, 0);
        CHECKS.due("P15 the first beginning, the first number", 1, r::dearest);
        r.correct(1, 99);
        CHECKS.due("P15 the first beginning", 2, r::dearest);
        r.correct(2, 99);
        CHECKS.due("P15 the next beginning", 0, r::dearest);
        r.correct(0, 99);
        CHECKS.due("P15 the last beginning", 3, r::dearest);
        r.correct(3, 99);
        CHECKS.due("P15 all again", 1, r::dearest);
    }

    private static void promise15OnlyCancelled() {
        PhoneRater r = Raters.plain();
        r.addCall(0, 20, 100, 0);
        r.addCall(0, 10, 100, 0);
        r.correct(1, 0);
        CHECKS.due("P15 one is not cancelled", 0, r::dearest);
        r.correct(0, 0);
        CHECKS.due("P15 all are cancelled: there are calls, each for 0", 1, r::dearest);
    }

    private static void questionsChangeNothing() {
        for (int call = 0; call < 60; call++) {
            FULL.onlyAsks("P12 callAt", CALL_AT, call);
            FULL.onlyAsks("P13 isPeak", IS_PEAK, call);
            FULL.onlyAsks("P14 told", TOLD, call, call % 5);
        }
        FULL.onlyAsks("P15 dearest", (r, a) -> r.dearest());
    }
}
