/** Counts and tells the answers that are not the ones that are due. */
final class Checks {
    interface Call {
        long answer();
    }

    private int good = 0;
    private int wrong = 0;

    void same(String what, long due, long got) {
        hold(what + " answered " + got + ", due is " + due, due == got);
    }

    void sameDouble(String what, double due, double got) {
        hold(what + " answered " + got + ", due is " + due, due == got);
    }

    void hold(String what, boolean good) {
        if (good) {
            this.good++;
        } else {
            wrong++;
            System.out.println("  wrong: " + what);
        }
    }

    /** The call throws exactly this, and changes nothing that the digest tells. */
    void refused(String what, CaveRelay x, Class<? extends RuntimeException> due, Call call) {
        long before = x.digest();
        String got = "nothing";
        try {
            call.answer();
        } catch (RuntimeException e) {
            got = e.getClass().getName();
        }
        hold(what + " threw " + got + ", due is " + due.getName(), got.equals(due.getName()));
        hold(what + " threw and changed the state", before == x.digest());
    }

    void noIndex(String what, CaveRelay x, Call call) {
        refused(what, x, IndexOutOfBoundsException.class, call);
    }

    void badArgument(String what, CaveRelay x, Call call) {
        refused(what, x, IllegalArgumentException.class, call);
    }

    void notNow(String what, CaveRelay x, Call call) {
        refused(what, x, IllegalStateException.class, call);
    }

    /** helper() for what = 0 to 8. */
    void helper(String what, CaveRelay x, int helper, int... due) {
        for (int i = 0; i < due.length; i++) {
            same(what + ": helper(" + helper + ", " + i + ")", due[i], x.helper(helper, i));
        }
    }

    /** passage() for what = 0 to 4. */
    void passage(String what, CaveRelay x, int passage, int... due) {
        for (int i = 0; i < due.length; i++) {
            same(what + ": passage(" + passage + ", " + i + ")", due[i], x.passage(passage, i));
        }
    }

    /** rope() for what = 0 to 2. */
    void rope(String what, CaveRelay x, int rope, int... due) {
        for (int i = 0; i < due.length; i++) {
            same(what + ": rope(" + rope + ", " + i + ")", due[i], x.rope(rope, i));
        }
    }

    /** value() for what = 0 to 13. */
    void values(String what, CaveRelay x, int... due) {
        for (int i = 0; i < due.length; i++) {
            same(what + ": value(" + i + ")", due[i], x.value(i));
        }
    }

    void message(String what, CaveRelay x, int index, int... due) {
        for (int i = 0; i < due.length; i++) {
            same(what + ": message(" + index + ", " + i + ")", due[i], x.message(index, i));
        }
    }

    void carried(String what, CaveRelay x, int index, int... due) {
        for (int i = 0; i < due.length; i++) {
            same(what + ": carried(" + index + ", " + i + ")", due[i], x.carried(index, i));
        }
    }

    void end(String name) {
        System.out.println(name + ": " + good + " checks good, " + wrong + " wrong");
        if (wrong != 0 || good == 0) {
            System.exit(1);
        }
    }
}
