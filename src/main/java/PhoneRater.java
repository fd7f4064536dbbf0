import java.util.ArrayList;

/**
 * A rater for telephone calls of one month.
 *
 * <p>Lines have tariffs and belong to accounts; the lines of an account share a bundle of seconds
 * for calls at home; abroad there are day fees, behind which calls are free for a while. Calls can
 * come in any order and can be corrected later; prices are always those that come out if all calls
 * are rated in the order of their beginnings.
 */
public final class PhoneRater {
    private static final int MOST_TARIFFS = 5;
    private static final int MOST_ACCOUNTS = 4;
    private static final int MOST_LINES = 8;
    private static final int MOST_CALLS = 60;

    private static final int MOST_MONEY = 10000;
    private static final int MOST_INTERVAL = 300;
    private static final int MOST_BUNDLE = 100000;
    private static final int MOST_THRESHOLD = 1000000;
    private static final int MOST_PERCENT = 100;
    private static final int MOST_SECONDS = 7200;

    private static final int DAYS = 30;
    private static final int MINUTES_OF_DAY = 1440;
    private static final int FIRST_OF_PEAK = 480;
    private static final int LAST_OF_PEAK = 1079;
    private static final int DAYS_OF_WEEK = 7;
    private static final int FIRST_WEEKEND_DAY = 5;
    private static final int SECONDS_OF_MINUTE = 60;
    private static final int TENTHS_OF_CENT = 10;

    private static final int HOME = 0;
    private static final int FIRST_ABROAD = 1;
    private static final int LAST_ZONE = 2;
    private static final int ZONES = 3;
    private static final int FREE_SECONDS_OF_DAY = 1800;

    private static final int LAST_TOLD = 4;
    private static final int NONE = -1;
    private static final long DIGEST_START = 193L;
    private static final long DIGEST_FACTOR = 31L;

    /** What calls cost; its two rows are indexed by the zone, with the place of HOME unused. */
    private static final class Tariff {
        final int number;
        final int connection;
        final int peak;
        final int other;
        final int first;
        final int next;
        final int[] zoneRate = new int[ZONES];
        final int[] zoneDayFee = new int[ZONES];

        Tariff(int number, int connection, int peak, int other, int first, int next) {
            this.number = number;
            this.connection = connection;
            this.peak = peak;
            this.other = other;
            this.first = first;
            this.next = next;
        }

        int billedFor(int seconds) {
            if (seconds <= first || next < 1) {
                return first;
            }
            int intervals = (seconds - first + next - 1) / next;
            return first + intervals * next;
        }

        int chargeFor(int seconds, int rate) {
            if (seconds <= 0) {
                return 0;
            }
            return connection + (seconds * rate + SECONDS_OF_MINUTE - 1) / SECONDS_OF_MINUTE;
        }
    }

    /** A payer, with what the last rating has found for it. */
    private static final class Account {
        final int threshold;
        final int percent;
        int bundle;
        int unused;
        int emptier;
        int prices;

        Account(int bundle, int threshold, int percent) {
            this.bundle = bundle;
            this.threshold = threshold;
            this.percent = percent;
            this.unused = bundle;
            this.emptier = NONE;
        }

        void forgetRating() {
            unused = bundle;
            emptier = NONE;
            prices = 0;
        }

        int takeFromBundle(Call call) {
            int taken = Math.min(unused, call.billed);
            unused -= taken;
            if (taken > 0 && unused == 0) {
                emptier = call.number;
            }
            return taken;
        }

        int cents() {
            // prices times percent can be more than an int holds
            long above = Math.max(0, prices - threshold);
            int off = (int) (above * percent / 100L);
            return (prices - off + TENTHS_OF_CENT / 2) / TENTHS_OF_CENT;
        }
    }

    /** A telephone line, with what the last rating has found for it; its rows are indexed by the zone. */
    private static final class Line {
        final Account account;
        Tariff tariff;
        int prices;
        final int[] feesPaid = new int[ZONES];
        final int[] lastFeeDay = new int[ZONES];
        final int[] freeOfDay = new int[ZONES];

        Line(Account account, Tariff tariff) {
            this.account = account;
            this.tariff = tariff;
        }

        void forgetRating() {
            prices = 0;
            for (int zone = FIRST_ABROAD; zone < ZONES; zone++) {
                feesPaid[zone] = 0;
                lastFeeDay[zone] = NONE;
            }
        }

        // The order of rating never goes back to an earlier day, so the last day is all to remember.
        boolean beginsFeeDay(int zone, int day) {
            if (lastFeeDay[zone] == day) {
                return false;
            }
            lastFeeDay[zone] = day;
            freeOfDay[zone] = FREE_SECONDS_OF_DAY;
            feesPaid[zone]++;
            return true;
        }

        int takeFreeOfDay(int zone, int seconds) {
            int taken = Math.min(freeOfDay[zone], seconds);
            freeOfDay[zone] -= taken;
            return taken;
        }
    }

    /** A call, with what the last rating has found for it. */
    private static final class Call {
        final int number;
        final Line line;
        final int minute;
        final int zone;
        int seconds;
        int billed;
        int free;
        int price;
        int dayFee;

        Call(int number, Line line, int minute, int seconds, int zone) {
            this.number = number;
            this.line = line;
            this.minute = minute;
            this.seconds = seconds;
            this.zone = zone;
        }

        int day() {
            return minute / MINUTES_OF_DAY;
        }

        void forgetRating() {
            billed = 0;
            free = 0;
            price = 0;
            dayFee = 0;
        }

        int tell(int what) {
            switch (what) {
                case 0:
                    return seconds;
                case 1:
                    return billed;
                case 2:
                    return free;
                case 3:
                    return price;
                default:
                    return dayFee;
            }
        }
    }

    private final ArrayList<Tariff> tariffs;
    private final ArrayList<Account> accounts;
    private final ArrayList<Line> lines;
    private final ArrayList<Call> calls;
    private final ArrayList<Call> ordered;
    private int firstOfPeak;
    private int lastOfPeak;

    /** Creates a rater without tariffs, accounts, lines and calls. */
    public PhoneRater() {
        tariffs = new ArrayList<>();
        accounts = new ArrayList<>();
        lines = new ArrayList<>();
        calls = new ArrayList<>();
        ordered = new ArrayList<>();
        firstOfPeak = FIRST_OF_PEAK;
        lastOfPeak = LAST_OF_PEAK;
    }

    /** Adds a tariff; returns its number. */
    public int addTariff(int connection, int peak, int other, int first, int next)
            throws IllegalArgumentException, IllegalStateException {
        if (!isMoney(connection) || !isMoney(peak) || !isMoney(other)) {
            throw new IllegalArgumentException("a fee or a rate is not 0 to 10000");
        }
        if (!isWithin(first, 1, MOST_INTERVAL) || !isWithin(next, 1, MOST_INTERVAL)) {
            throw new IllegalArgumentException("an interval is not 1 to 300");
        }
        int number = tariffs.size();
        if (number >= MOST_TARIFFS) {
            throw new IllegalStateException("there are 5 tariffs");
        }
        tariffs.add(new Tariff(number, connection, peak, other, first, next));
        return number;
    }

    /** Sets what a tariff has for a zone abroad; returns the rate before. */
    public int setZone(int tariff, int zone, int rate, int dayFee)
            throws IndexOutOfBoundsException, IllegalArgumentException {
        Tariff changed = findTariff(tariff);
        checkAbroad(zone);
        if (!isMoney(rate) || !isMoney(dayFee)) {
            throw new IllegalArgumentException("a rate or a day fee is not 0 to 10000");
        }
        int before = changed.zoneRate[zone];
        changed.zoneRate[zone] = rate;
        changed.zoneDayFee[zone] = dayFee;
        rateAll();
        return before;
    }

    /** Sets the peak; returns whether this changes it. */
    public boolean setPeak(int first, int last) throws IllegalArgumentException {
        if (!isMinuteOfDay(first) || !isMinuteOfDay(last) || last < first) {
            throw new IllegalArgumentException("no peak of a day");
        }
        boolean changes = first != firstOfPeak || last != lastOfPeak;
        firstOfPeak = first;
        lastOfPeak = last;
        rateAll();
        return changes;
    }

    /** Adds an account; returns its number. */
    public int addAccount(int bundle, int threshold, int percent)
            throws IllegalArgumentException, IllegalStateException {
        checkBundle(bundle);
        if (!isWithin(threshold, 0, MOST_THRESHOLD)) {
            throw new IllegalArgumentException("the threshold is not 0 to 1000000");
        }
        if (!isWithin(percent, 0, MOST_PERCENT)) {
            throw new IllegalArgumentException("the percentage is not 0 to 100");
        }
        int number = accounts.size();
        if (number >= MOST_ACCOUNTS) {
            throw new IllegalStateException("there are 4 accounts");
        }
        accounts.add(new Account(bundle, threshold, percent));
        return number;
    }

    /** Adds a line; returns its number. */
    public int addLine(int account, int tariff) throws IndexOutOfBoundsException, IllegalStateException {
        Account payer = findAccount(account);
        Tariff given = findTariff(tariff);
        int number = lines.size();
        if (number >= MOST_LINES) {
            throw new IllegalStateException("there are 8 lines");
        }
        lines.add(new Line(payer, given));
        return number;
    }

    /** Gives a line another tariff, for all its calls; returns the tariff before. */
    public int setTariff(int line, int tariff) throws IndexOutOfBoundsException {
        Line changed = findLine(line);
        Tariff given = findTariff(tariff);
        int before = changed.tariff.number;
        giveTariff(changed, given);
        return before;
    }

    /** Sets the bundle of an account; returns the bundle before. */
    public int setBundle(int account, int bundle) throws IndexOutOfBoundsException, IllegalArgumentException {
        Account changed = findAccount(account);
        checkBundle(bundle);
        int before = changed.bundle;
        changed.bundle = bundle;
        rateAll();
        return before;
    }

    /** Adds a call; returns its number. */
    public int addCall(int line, int minute, int seconds, int zone)
            throws IndexOutOfBoundsException, IllegalArgumentException, IllegalStateException {
        Line caller = findLine(line);
        if (!isWithin(minute, 0, DAYS * MINUTES_OF_DAY - 1)) {
            throw new IllegalArgumentException("the beginning is not 0 to 43199");
        }
        if (!isWithin(seconds, 1, MOST_SECONDS)) {
            throw new IllegalArgumentException("the seconds are not 1 to 7200");
        }
        if (!isWithin(zone, HOME, LAST_ZONE)) {
            throw new IllegalArgumentException("the zone is not 0 to 2");
        }
        int number = calls.size();
        if (number >= MOST_CALLS) {
            throw new IllegalStateException("there are 60 calls");
        }
        Call added = new Call(number, caller, minute, seconds, zone);
        calls.add(added);
        putInOrder(added);
        rateAll();
        return number;
    }

    /** Corrects the seconds of a call, 0 cancels it; returns the seconds before. */
    public int correct(int call, int seconds) throws IndexOutOfBoundsException, IllegalArgumentException {
        Call corrected = findCall(call);
        if (!isWithin(seconds, 0, MOST_SECONDS)) {
            throw new IllegalArgumentException("the seconds are not 0 to 7200");
        }
        int before = corrected.seconds;
        corrected.seconds = seconds;
        rateAll();
        return before;
    }

    /** Returns the number of calls, cancelled ones included. */
    public int callCount() {
        return calls.size();
    }

    /** Returns the call at an index in the order of rating. */
    public int callAt(int index) throws IndexOutOfBoundsException {
        if (index < 0 || index >= ordered.size()) {
            throw new IndexOutOfBoundsException("no such index");
        }
        return ordered.get(index).number;
    }

    /** Returns whether a call is in the peak. */
    public boolean isPeak(int call) throws IndexOutOfBoundsException {
        return beginsInPeak(findCall(call));
    }

    /** Returns 0 the seconds, 1 the billed seconds, 2 the free ones, 3 the price or 4 the day fee of a call. */
    public int told(int call, int what) throws IndexOutOfBoundsException {
        Call asked = findCall(call);
        if (!isWithin(what, 0, LAST_TOLD)) {
            throw new IndexOutOfBoundsException("nothing of this number is told");
        }
        return asked.tell(what);
    }

    /** Returns the call with the greatest price, of several the one that is rated first; -1 if there is none. */
    public int dearest() {
        int dearest = NONE;
        int most = NONE;
        for (int i = 0; i < ordered.size(); i++) {
            Call call = ordered.get(i);
            if (call.price > most) {
                most = call.price;
                dearest = call.number;
            }
        }
        return dearest;
    }

    /** Returns the sum of the prices of a line's calls. */
    public int lineSum(int line) throws IndexOutOfBoundsException {
        return findLine(line).prices;
    }

    /** Returns the sum of the prices of all calls that begin on a day. */
    public int daySum(int day) throws IndexOutOfBoundsException {
        if (day < 0 || day >= DAYS) {
            throw new IndexOutOfBoundsException("no such day");
        }
        int prices = 0;
        for (int i = 0; i < calls.size(); i++) {
            Call call = calls.get(i);
            if (call.day() == day) {
                prices += call.price;
            }
        }
        return prices;
    }

    /** Returns the sum of an account. */
    public int sum(int account) throws IndexOutOfBoundsException {
        return findAccount(account).prices;
    }

    /** Returns the total of an account, in cents. */
    public int total(int account) throws IndexOutOfBoundsException {
        return findAccount(account).cents();
    }

    /** Returns how many seconds of an account's bundle are left behind all calls. */
    public int left(int account) throws IndexOutOfBoundsException {
        return findAccount(account).unused;
    }

    /** Returns the first call behind which nothing is left of an account's bundle; -1 if there is none. */
    public int emptied(int account) throws IndexOutOfBoundsException {
        return findAccount(account).emptier;
    }

    /** Returns how many day fees a line's calls in a zone abroad cost. */
    public int dayFees(int line, int zone) throws IndexOutOfBoundsException {
        Line asked = findLine(line);
        checkAbroad(zone);
        return asked.feesPaid[zone];
    }

    /** Returns what the total of a line's account would be if the line had this tariff. */
    public int totalWith(int line, int tariff) throws IndexOutOfBoundsException {
        Line asked = findLine(line);
        Tariff tried = findTariff(tariff);
        Tariff kept = asked.tariff;
        giveTariff(asked, tried);
        int cents = asked.account.cents();
        giveTariff(asked, kept);
        return cents;
    }

    /** Returns the tariff with which the total of a line's account would be least. */
    public int bestTariff(int line) throws IndexOutOfBoundsException {
        Line asked = findLine(line);
        Tariff kept = asked.tariff;
        int best = NONE;
        int least = 0;
        for (int i = 0; i < tariffs.size(); i++) {
            giveTariff(asked, tariffs.get(i));
            int cents = asked.account.cents();
            if (best == NONE || cents < least) {
                best = i;
                least = cents;
            }
        }
        giveTariff(asked, kept);
        return best;
    }

    /** Returns the free seconds of all calls, divided by their billed seconds; 0 if these are 0. */
    public double freeShare() {
        int free = 0;
        int billed = 0;
        for (int i = 0; i < calls.size(); i++) {
            Call call = calls.get(i);
            free += call.free;
            billed += call.billed;
        }
        if (billed == 0) {
            return 0.0;
        }
        return (double) free / (double) billed;
    }

    /** Computes a checksum of all that is held and rated. */
    public long digest() {
        long d = DIGEST_START;
        d = mix(d, tariffs.size());
        d = mix(d, accounts.size());
        d = mix(d, lines.size());
        d = mix(d, calls.size());
        d = mix(d, firstOfPeak);
        d = mix(d, lastOfPeak);
        d = mixLines(d);
        d = mixAccounts(d);
        return mixCalls(d);
    }

    private long mixLines(long start) {
        long d = start;
        for (int i = 0; i < lines.size(); i++) {
            Line line = lines.get(i);
            d = mix(d, line.tariff.number);
            d = mix(d, line.prices);
        }
        return d;
    }

    private long mixAccounts(long start) {
        long d = start;
        for (int i = 0; i < accounts.size(); i++) {
            Account account = accounts.get(i);
            d = mix(d, account.bundle);
            d = mix(d, account.prices);
            d = mix(d, account.cents());
            d = mix(d, account.unused);
        }
        return d;
    }

    private long mixCalls(long start) {
        long d = start;
        for (int i = 0; i < ordered.size(); i++) {
            Call call = ordered.get(i);
            d = mix(d, call.number);
            for (int what = 0; what <= LAST_TOLD; what++) {
                d = mix(d, call.tell(what));
            }
        }
        return d;
    }

    private static long mix(long d, int x) {
        return d * DIGEST_FACTOR + x;
    }

    // A new call has the greatest number, so it comes behind all calls with the same beginning.
    private void putInOrder(Call added) {
        int at = 0;
        while (at < ordered.size() && ordered.get(at).minute <= added.minute) {
            at++;
        }
        ordered.add(at, added);
    }

    private void giveTariff(Line line, Tariff tariff) {
        line.tariff = tariff;
        rateAll();
    }

    // Any change can move bundle and free seconds between later calls, so all of them are rated anew.
    private void rateAll() {
        for (int i = 0; i < accounts.size(); i++) {
            accounts.get(i).forgetRating();
        }
        for (int i = 0; i < lines.size(); i++) {
            lines.get(i).forgetRating();
        }
        for (int i = 0; i < ordered.size(); i++) {
            Call call = ordered.get(i);
            call.forgetRating();
            if (call.seconds > 0) {
                rate(call);
            }
        }
    }

    private void rate(Call call) {
        Line line = call.line;
        Tariff tariff = line.tariff;
        call.billed = tariff.billedFor(call.seconds);
        int rate;
        if (call.zone == HOME) {
            call.free = line.account.takeFromBundle(call);
            rate = beginsInPeak(call) ? tariff.peak : tariff.other;
        } else {
            rateDayFee(call);
            rate = tariff.zoneRate[call.zone];
        }
        call.price = call.dayFee + tariff.chargeFor(call.billed - call.free, rate);
        line.prices += call.price;
        line.account.prices += call.price;
    }

    private static void rateDayFee(Call call) {
        Line line = call.line;
        int zone = call.zone;
        int dayFee = line.tariff.zoneDayFee[zone];
        if (dayFee == 0) {
            return;
        }
        if (line.beginsFeeDay(zone, call.day())) {
            call.dayFee = dayFee;
        }
        call.free = line.takeFreeOfDay(zone, call.billed);
    }

    private boolean beginsInPeak(Call call) {
        int minuteOfDay = call.minute % MINUTES_OF_DAY;
        boolean weekend = call.day() % DAYS_OF_WEEK >= FIRST_WEEKEND_DAY;
        return !weekend && isWithin(minuteOfDay, firstOfPeak, lastOfPeak);
    }

    private Tariff findTariff(int number) {
        if (number < 0 || number >= tariffs.size()) {
            throw new IndexOutOfBoundsException("no such tariff");
        }
        return tariffs.get(number);
    }

    private Account findAccount(int number) {
        if (number < 0 || number >= accounts.size()) {
            throw new IndexOutOfBoundsException("no such account");
        }
        return accounts.get(number);
    }

    private Line findLine(int number) {
        if (number < 0 || number >= lines.size()) {
            throw new IndexOutOfBoundsException("no such line");
        }
        return lines.get(number);
    }

    private Call findCall(int number) {
        if (number < 0 || number >= calls.size()) {
            throw new IndexOutOfBoundsException("no such call");
        }
        return calls.get(number);
    }

    private static void checkAbroad(int zone) {
        if (!isWithin(zone, FIRST_ABROAD, LAST_ZONE)) {
            throw new IndexOutOfBoundsException("no such zone abroad");
        }
    }

    private static void checkBundle(int bundle) {
        if (!isWithin(bundle, 0, MOST_BUNDLE)) {
            throw new IllegalArgumentException("the bundle is not 0 to 100000");
        }
    }

    private static boolean isMinuteOfDay(int minute) {
        return isWithin(minute, 0, MINUTES_OF_DAY - 1);
    }

    private static boolean isMoney(int tenths) {
        return isWithin(tenths, 0, MOST_MONEY);
    }

    private static boolean isWithin(int number, int least, int most) {
        return number >= least && number <= most;
    }
}
