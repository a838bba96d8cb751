import java.util.function.Supplier;

/** Counts and tells the answers that are not the ones that are due. */
final class Checks {
    interface Call {
        long answer();
    }

    interface CallOn {
        Object answer(CaveRelay x);
    }

    private int good = 0;
    private int wrong = 0;
    private String about = "";

    /** What the checks that follow are about; it is told with those that are wrong. */
    void begin(String about) {
        this.about = about.isEmpty() ? "" : about + ": ";
    }

    void same(String what, long due, long got) {
        hold(what + " answered " + got + ", due is " + due, due == got);
    }

    void sameDouble(String what, double due, double got) {
        hold(what + " answered " + got + ", due is " + due, due == got);
    }

    void hold(String what, boolean good) {
        if (good) {
            this.good++;
        } else {
            wrong++;
            System.out.println("  wrong: " + about + what);
        }
    }

    /** The call throws exactly this, and changes nothing that the digest tells. */
    void refused(String what, CaveRelay x, Class<? extends RuntimeException> due, Call call) {
        long before = x.digest();
        String got = "nothing";
        try {
            call.answer();
        } catch (RuntimeException e) {
            got = e.getClass().getName();
        }
        hold(what + " threw " + got + ", due is " + due.getName(), got.equals(due.getName()));
        hold(what + " threw and changed the state", before == x.digest());
    }

    /**
     * The call throws exactly this on an object that is made so, and leaves all as it is: what the object tells, its
     * saved states and its text. With four saved states, too, as one that is saved in vain shows only by the lost one.
     */
    void refused(String what, Supplier<CaveRelay> made, Class<? extends RuntimeException> due, CallOn call) {
        refusedOnce(what, made, due, call);
        refusedOnce(what + " (four states are saved)", () -> withFourSaved(made.get()), due, call);
    }

    void refusedOnce(String what, Supplier<CaveRelay> made, Class<? extends RuntimeException> due, CallOn call) {
        CaveRelay x = made.get();
        String got = "nothing";
        try {
            call.answer(x);
        } catch (RuntimeException e) {
            got = e.getClass().getName();
        }
        hold(what + " threw " + got + ", due is " + due.getName(), got.equals(due.getName()));
        hold(what + " threw and changed something", whole(x).equals(whole(made.get())));
    }

    /** Silences that are none: four saved states that differ from one another. */
    static CaveRelay withFourSaved(CaveRelay x) {
        for (int i = 1; i <= 4; i++) {
            x.setSilence(i, i);
        }
        return x;
    }

    /** All that an object tells, now and back through its saved states, and what its text does; this uses it up. */
    static String whole(CaveRelay x) {
        StringBuilder told = new StringBuilder().append(x.digest());
        try {
            for (int i = 0; i < 9; i++) {
                told.append(' ').append(x.undo()).append(':').append(x.digest());
            }
        } catch (IllegalStateException e) {
            told.append(" no more");
        }
        return told.append(' ').append(x.carryOut()).append(':').append(x.digest()).toString();
    }

    void noIndex(String what, Supplier<CaveRelay> made, CallOn call) {
        refused(what, made, IndexOutOfBoundsException.class, call);
    }

    void badArgument(String what, Supplier<CaveRelay> made, CallOn call) {
        refused(what, made, IllegalArgumentException.class, call);
    }

    void notNow(String what, Supplier<CaveRelay> made, CallOn call) {
        refused(what, made, IllegalStateException.class, call);
    }

    void noIndex(String what, CaveRelay x, Call call) {
        refused(what, x, IndexOutOfBoundsException.class, call);
    }

    void badArgument(String what, CaveRelay x, Call call) {
        refused(what, x, IllegalArgumentException.class, call);
    }

    void notNow(String what, CaveRelay x, Call call) {
        refused(what, x, IllegalStateException.class, call);
    }

    /** helper() for what = 0 to 8. */
    void helper(String what, CaveRelay x, int helper, int... due) {
        for (int i = 0; i < due.length; i++) {
            same(what + ": helper(" + helper + ", " + i + ")", due[i], x.helper(helper, i));
        }
    }

    /** passage() for what = 0 to 4. */
    void passage(String what, CaveRelay x, int passage, int... due) {
        for (int i = 0; i < due.length; i++) {
            same(what + ": passage(" + passage + ", " + i + ")", due[i], x.passage(passage, i));
        }
    }

    /** rope() for what = 0 to 2. */
    void rope(String what, CaveRelay x, int rope, int... due) {
        for (int i = 0; i < due.length; i++) {
            same(what + ": rope(" + rope + ", " + i + ")", due[i], x.rope(rope, i));
        }
    }

    /** value() for what = 0 to 13. */
    void values(String what, CaveRelay x, int... due) {
        for (int i = 0; i < due.length; i++) {
            same(what + ": value(" + i + ")", due[i], x.value(i));
        }
    }

    void message(String what, CaveRelay x, int index, int... due) {
        for (int i = 0; i < due.length; i++) {
            same(what + ": message(" + index + ", " + i + ")", due[i], x.message(index, i));
        }
    }

    void carried(String what, CaveRelay x, int index, int... due) {
        for (int i = 0; i < due.length; i++) {
            same(what + ": carried(" + index + ", " + i + ")", due[i], x.carried(index, i));
        }
    }

    int total() {
        return good + wrong;
    }

    void end(String name) {
        System.out.println(name + ": " + good + " checks good, " + wrong + " wrong");
        if (wrong != 0 || good == 0) {
            System.exit(1);
        }
    }
}
