/** Raters to begin a test with, the same ones each time. */
final class Raters {
    private Raters() {
    }

    static PhoneRater empty() {
        return new PhoneRater();
    }

    /** One line whose calls at home cost a tenth of a cent a second, without a bundle and without anything taken off. */
    static PhoneRater plain() {
        return withBundle(0);
    }

    static PhoneRater withBundle(int bundle) {
        PhoneRater r = new PhoneRater();
        r.addTariff(0, 60, 60, 1, 1);
        r.addAccount(bundle, 1000000, 0);
        r.addLine(0, 0);
        return r;
    }

    /** Two tariffs, accounts and lines and six calls: every setting has its part in some total. */
    static PhoneRater some() {
        PhoneRater r = new PhoneRater();
        r.addTariff(50, 90, 30, 60, 60);
        r.setZone(0, 1, 200, 500);
        r.setZone(0, 2, 300, 0);
        r.addTariff(20, 600, 60, 30, 10);
        r.setZone(1, 1, 900, 30);
        r.setZone(1, 2, 120, 40);
        r.addAccount(300, 1000, 10);
        r.addAccount(50, 0, 50);
        r.addLine(0, 0);
        r.addLine(1, 1);
        r.addCall(0, 600, 400, 0);
        r.addCall(0, 1300, 100, 0);
        r.addCall(0, 1500, 2000, 1);
        r.addCall(0, 1500, 61, 2);
        r.addCall(1, 1440, 1801, 2);
        r.addCall(1, 500, 100, 0);
        return r;
    }

    /** As many tariffs, accounts, lines and calls as there can be. */
    static PhoneRater full() {
        PhoneRater r = new PhoneRater();
        for (int t = 0; t < 5; t++) {
            r.addTariff(10 * t, 60 + 7 * t, 30 + t, 60 - t, 10 + t);
            r.setZone(t, 1, 100 + t, 50 * t);
            r.setZone(t, 2, 200 + t, 200 - 50 * t);
        }
        for (int a = 0; a < 4; a++) {
            r.addAccount(1000 * a, 100 * a, 25 * a);
        }
        for (int l = 0; l < 8; l++) {
            r.addLine(l % 4, l % 5);
        }
        for (int c = 0; c < 60; c++) {
            r.addCall(c % 8, c * 7919 % 7200, 1 + c * 613 % 7200, c % 3);
        }
        return r;
    }
}
