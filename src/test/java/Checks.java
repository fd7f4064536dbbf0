/** Compares answers with those that are due, prints the wrong ones and ends the program with exit code 1 if there are any. */
final class Checks {
    /** A call of the face; a boolean answer counts 1 or 0. */
    interface Act {
        double answer();
    }

    private int made;
    private int wrong;

    void due(String what, double want, Act act) {
        made++;
        try {
            double got = act.answer();
            if (got != want) {
                tell(what + " answered " + got + ", due is " + want);
            }
        } catch (RuntimeException e) {
            tell(what + " threw " + e + ", due is " + want);
        }
    }

    void isTrue(String what, boolean holds) {
        made++;
        if (!holds) {
            tell(what);
        }
    }

    /** The call must throw just this exception, by a throw in PhoneRater itself, and leave the rater as it was. */
    void refused(String what, Class<? extends RuntimeException> want, PhoneRater rater, Act act) {
        made++;
        long before = rater.digest();
        try {
            double got = act.answer();
            tell(what + " answered " + got + ", due is a throw of " + want.getSimpleName());
        } catch (RuntimeException e) {
            if (e.getClass() != want) {
                tell(what + " threw " + e + ", due is a throw of " + want.getSimpleName());
            } else if (!isThrownByRater(e)) {
                tell(what + " let the machine or the library throw " + e);
            }
        }
        if (rater.digest() != before) {
            tell(what + " threw and changed the rater");
        }
    }

    void refusedIndex(String what, PhoneRater rater, Act act) {
        refused(what, IndexOutOfBoundsException.class, rater, act);
    }

    void refusedArgument(String what, PhoneRater rater, Act act) {
        refused(what, IllegalArgumentException.class, rater, act);
    }

    void refusedState(String what, PhoneRater rater, Act act) {
        refused(what, IllegalStateException.class, rater, act);
    }

    static boolean isThrownByRater(RuntimeException e) {
        StackTraceElement[] frames = e.getStackTrace();
        return frames.length > 0 && frames[0].getClassName().startsWith("PhoneRater");
    }

    void tell(String fault) {
        wrong++;
        System.out.println(fault);
    }

    void end(String name) {
        System.out.println(name + ": " + made + " checks, " + wrong + " wrong");
        if (wrong != 0) {
            System.exit(1);
        }
    }
}
