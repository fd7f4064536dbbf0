import java.math.BigInteger;
import java.util.ArrayList;
import java.util.Comparator;
import java.util.List;

/**
 * The document told once more, slowly: nothing is kept but what was set, and every answer is worked out from the
 * calls that are rated before. Answers are texts: a number, or throws.E.
 */
final class Reference {
    private static final String INDEX = "throws.IndexOutOfBoundsException";
    private static final String ARGUMENT = "throws.IllegalArgumentException";
    private static final String STATE = "throws.IllegalStateException";

    /** connection, peak, other, first, next, rate 1, day fee 1, rate 2, day fee 2 */
    private final List<int[]> tariffs = new ArrayList<>();
    /** bundle, threshold, percent */
    private final List<int[]> accounts = new ArrayList<>();
    /** account, tariff */
    private final List<int[]> lines = new ArrayList<>();
    /** line, minute, seconds, zone */
    private final List<int[]> calls = new ArrayList<>();
    private int peakFirst = 480;
    private int peakLast = 1079;

    /** Answers the call of this name; a call that the document does not name is a fault of the test. */
    String answer(String name, int... a) {
        switch (name) {
            case "addTariff": return addTariff(a);
            case "setZone": return setZone(a[0], a[1], a[2], a[3]);
            case "setPeak": return setPeak(a[0], a[1]);
            case "addAccount": return addAccount(a);
            case "addLine": return addLine(a[0], a[1]);
            case "setTariff": return setTariff(a[0], a[1]);
            case "setBundle": return setBundle(a[0], a[1]);
            case "addCall": return addCall(a);
            case "correct": return correct(a[0], a[1]);
            default: return ask(name, a);
        }
    }

    private String addTariff(int[] a) {
        if (off(a[0], 0, 10000) || off(a[1], 0, 10000) || off(a[2], 0, 10000)) return ARGUMENT;
        if (off(a[3], 1, 300) || off(a[4], 1, 300)) return ARGUMENT;
        if (tariffs.size() == 5) return STATE;
        tariffs.add(new int[] {a[0], a[1], a[2], a[3], a[4], 0, 0, 0, 0});
        return text(tariffs.size() - 1);
    }

    private String setZone(int tariff, int zone, int rate, int dayFee) {
        if (none(tariffs, tariff) || off(zone, 1, 2)) return INDEX;
        if (off(rate, 0, 10000) || off(dayFee, 0, 10000)) return ARGUMENT;
        int[] t = tariffs.get(tariff);
        int before = t[3 + 2 * zone];
        t[3 + 2 * zone] = rate;
        t[4 + 2 * zone] = dayFee;
        return text(before);
    }

    private String setPeak(int first, int last) {
        if (off(first, 0, 1439) || off(last, 0, 1439) || last < first) return ARGUMENT;
        boolean other = first != peakFirst || last != peakLast;
        peakFirst = first;
        peakLast = last;
        return String.valueOf(other);
    }

    private String addAccount(int[] a) {
        if (off(a[0], 0, 100000) || off(a[1], 0, 1000000) || off(a[2], 0, 100)) return ARGUMENT;
        if (accounts.size() == 4) return STATE;
        accounts.add(a.clone());
        return text(accounts.size() - 1);
    }

    private String addLine(int account, int tariff) {
        if (none(accounts, account) || none(tariffs, tariff)) return INDEX;
        if (lines.size() == 8) return STATE;
        lines.add(new int[] {account, tariff});
        return text(lines.size() - 1);
    }

    private String setTariff(int line, int tariff) {
        if (none(lines, line) || none(tariffs, tariff)) return INDEX;
        int before = lines.get(line)[1];
        lines.get(line)[1] = tariff;
        return text(before);
    }

    private String setBundle(int account, int bundle) {
        if (none(accounts, account)) return INDEX;
        if (off(bundle, 0, 100000)) return ARGUMENT;
        int before = accounts.get(account)[0];
        accounts.get(account)[0] = bundle;
        return text(before);
    }

    private String addCall(int[] a) {
        if (none(lines, a[0])) return INDEX;
        if (off(a[1], 0, 43199) || off(a[2], 1, 7200) || off(a[3], 0, 2)) return ARGUMENT;
        if (calls.size() == 60) return STATE;
        calls.add(a.clone());
        return text(calls.size() - 1);
    }

    private String correct(int call, int seconds) {
        if (none(calls, call)) return INDEX;
        if (off(seconds, 0, 7200)) return ARGUMENT;
        int before = calls.get(call)[2];
        calls.get(call)[2] = seconds;
        return text(before);
    }

    private String ask(String name, int[] a) {
        switch (name) {
            case "callCount": return text(calls.size());
            case "callAt": return none(calls, a[0]) ? INDEX : text(order().get(a[0]));
            case "isPeak": return none(calls, a[0]) ? INDEX : String.valueOf(peak(a[0]));
            case "told": return none(calls, a[0]) || off(a[1], 0, 4) ? INDEX : text(tell(a[0], a[1]));
            case "dearest": return text(dearest());
            case "lineSum": return none(lines, a[0]) ? INDEX : text(sumWhere(a[0], -1, -1));
            case "daySum": return off(a[0], 0, 29) ? INDEX : text(sumWhere(-1, a[0], -1));
            case "sum": return none(accounts, a[0]) ? INDEX : text(sumWhere(-1, -1, a[0]));
            case "total": return none(accounts, a[0]) ? INDEX : text(cents(a[0]));
            case "left": return none(accounts, a[0]) ? INDEX : text(leftBehind(a[0], calls.size()));
            case "emptied": return none(accounts, a[0]) ? INDEX : text(emptied(a[0]));
            case "dayFees": return none(lines, a[0]) || off(a[1], 1, 2) ? INDEX : text(dayFees(a[0], a[1]));
            case "totalWith": return none(lines, a[0]) || none(tariffs, a[1]) ? INDEX : text(with(a[0], a[1]));
            case "bestTariff": return none(lines, a[0]) ? INDEX : text(best(a[0]));
            case "freeShare": return String.valueOf(freeShare());
            case "digest": return String.valueOf(digest());
            default: throw new IllegalArgumentException(name);
        }
    }

    private static boolean off(int x, int least, int most) {
        return x < least || x > most;
    }

    private static boolean none(List<int[]> rows, int number) {
        return number < 0 || number >= rows.size();
    }

    private static String text(long x) {
        return String.valueOf(x);
    }

    private List<Integer> order() {
        List<Integer> order = new ArrayList<>();
        for (int i = 0; i < calls.size(); i++) order.add(i);
        order.sort(Comparator.comparingInt((Integer c) -> calls.get(c)[1]).thenComparingInt(c -> c));
        return order;
    }

    private boolean before(int c, int d) {
        int begins = Integer.compare(calls.get(c)[1], calls.get(d)[1]);
        return begins < 0 || begins == 0 && c < d;
    }

    private int day(int call) {
        return calls.get(call)[1] / 1440;
    }

    private boolean peak(int call) {
        int weekday = day(call) % 7;
        int minute = calls.get(call)[1] - 1440 * day(call);
        return weekday != 5 && weekday != 6 && peakFirst <= minute && minute <= peakLast;
    }

    private int[] tariffOf(int call) {
        return tariffs.get(lines.get(calls.get(call)[0])[1]);
    }

    private int accountOf(int call) {
        return lines.get(calls.get(call)[0])[0];
    }

    private int billed(int call) {
        int seconds = calls.get(call)[2];
        if (seconds == 0) return 0;
        int billed = tariffOf(call)[3];
        while (billed < seconds) billed += tariffOf(call)[4];
        return billed;
    }

    private boolean sameDayAbroad(int c, int d) {
        return calls.get(c)[0] == calls.get(d)[0] && calls.get(c)[3] == calls.get(d)[3] && day(c) == day(d);
    }

    /** What is left of the first `all` seconds when the calls before this one that share them have had their billed ones. */
    private int free(int call) {
        int zone = calls.get(call)[3];
        if (zone > 0 && tariffOf(call)[4 + 2 * zone] == 0) return 0;
        int all = zone == 0 ? accounts.get(accountOf(call))[0] : 1800;
        for (int c = 0; c < calls.size(); c++) {
            boolean shares = zone == 0 ? calls.get(c)[3] == 0 && accountOf(c) == accountOf(call) : sameDayAbroad(c, call);
            if (shares && before(c, call)) all -= billed(c);
        }
        return Math.min(billed(call), Math.max(0, all));
    }

    private int dayFee(int call) {
        int zone = calls.get(call)[3];
        if (zone == 0 || calls.get(call)[2] == 0) return 0;
        for (int c = 0; c < calls.size(); c++) {
            if (sameDayAbroad(c, call) && before(c, call) && calls.get(c)[2] > 0) return 0;
        }
        return tariffOf(call)[4 + 2 * zone];
    }

    private int price(int call) {
        int[] t = tariffOf(call);
        int zone = calls.get(call)[3];
        int charged = billed(call) - free(call);
        if (charged == 0) return dayFee(call);
        long rate = zone > 0 ? t[3 + 2 * zone] : peak(call) ? t[1] : t[2];
        long minutes = charged * rate / 60;
        return (int) (dayFee(call) + t[0] + (minutes * 60 < charged * rate ? minutes + 1 : minutes));
    }

    private int tell(int call, int what) {
        switch (what) {
            case 0: return calls.get(call)[2];
            case 1: return billed(call);
            case 2: return free(call);
            case 3: return price(call);
            default: return dayFee(call);
        }
    }

    private int dearest() {
        int dearest = -1;
        for (int c : order()) {
            if (dearest < 0 || price(c) > price(dearest)) dearest = c;
        }
        return dearest;
    }

    /** The prices of the calls of this line, on this day, of this account; -1 stands for any. */
    private int sumWhere(int line, int day, int account) {
        int prices = 0;
        for (int c = 0; c < calls.size(); c++) {
            boolean counts = (line < 0 || calls.get(c)[0] == line) && (day < 0 || day(c) == day)
                    && (account < 0 || accountOf(c) == account);
            if (counts) prices += price(c);
        }
        return prices;
    }

    private long cents(int account) {
        int[] a = accounts.get(account);
        BigInteger sum = BigInteger.valueOf(sumWhere(-1, -1, account));
        BigInteger above = sum.subtract(BigInteger.valueOf(a[1])).max(BigInteger.ZERO);
        BigInteger off = above.multiply(BigInteger.valueOf(a[2])).divide(BigInteger.valueOf(100));
        long rest = sum.subtract(off).longValueExact();
        return rest % 10 >= 5 ? rest / 10 + 1 : rest / 10;
    }

    /** What is left of the bundle behind so many calls in the order of rating. */
    private int leftBehind(int account, int many) {
        int left = accounts.get(account)[0];
        for (int c : order().subList(0, many)) {
            if (accountOf(c) == account && calls.get(c)[3] == 0) left = Math.max(0, left - billed(c));
        }
        return left;
    }

    private int emptied(int account) {
        if (accounts.get(account)[0] == 0) return -1;
        for (int i = 0; i < calls.size(); i++) {
            if (leftBehind(account, i + 1) == 0) return order().get(i);
        }
        return -1;
    }

    private int dayFees(int line, int zone) {
        int fees = 0;
        for (int c = 0; c < calls.size(); c++) {
            if (calls.get(c)[0] == line && calls.get(c)[3] == zone && dayFee(c) > 0) fees++;
        }
        return fees;
    }

    private long with(int line, int tariff) {
        int kept = lines.get(line)[1];
        lines.get(line)[1] = tariff;
        long cents = cents(lines.get(line)[0]);
        lines.get(line)[1] = kept;
        return cents;
    }

    private int best(int line) {
        int best = tariffs.size() - 1;
        for (int t = best - 1; t >= 0; t--) {
            if (with(line, t) <= with(line, best)) best = t;
        }
        return best;
    }

    private double freeShare() {
        double free = 0;
        double billed = 0;
        for (int c = 0; c < calls.size(); c++) {
            free += free(c);
            billed += billed(c);
        }
        return billed == 0 ? 0 : free / billed;
    }

    private long digest() {
        List<Long> numbers = new ArrayList<>();
        for (int x : new int[] {tariffs.size(), accounts.size(), lines.size(), calls.size(), peakFirst, peakLast}) {
            numbers.add((long) x);
        }
        for (int l = 0; l < lines.size(); l++) {
            numbers.add((long) lines.get(l)[1]);
            numbers.add((long) sumWhere(l, -1, -1));
        }
        for (int a = 0; a < accounts.size(); a++) {
            numbers.add((long) accounts.get(a)[0]);
            numbers.add((long) sumWhere(-1, -1, a));
            numbers.add(cents(a));
            numbers.add((long) leftBehind(a, calls.size()));
        }
        for (int c : order()) {
            numbers.add((long) c);
            for (int what = 0; what < 5; what++) numbers.add((long) tell(c, what));
        }
        long d = 193;
        for (long x : numbers) d = d * 31 + x;
        return d;
    }
}
