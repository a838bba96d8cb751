/** Caves that several tests begin with. */
final class Caves {
    private Caves() {
    }

    /** A cave of crawls, each of them with the same minutes. */
    static CaveRelay crawls(int passages, int minutes) {
        CaveRelay x = new CaveRelay();
        x.begin(passages);
        for (int i = 0; i < passages; i++) {
            x.setPassage(i, 0, minutes);
        }
        return x;
    }

    static void addHelpers(CaveRelay x, int count, int limit) {
        for (int i = 0; i < count; i++) {
            x.addHelper(limit);
        }
    }

    /** Sends the first helpers from the surface down, one passage after the other. */
    static void walkDown(CaveRelay x, int helpers, int station) {
        for (int s = 1; s <= station; s++) {
            for (int h = 0; h < helpers; h++) {
                x.go(h, s);
            }
            x.pass(x.passage(s - 1, 1));
        }
    }

    /** Sends one helper down from a station to another. */
    static void walkDownFrom(CaveRelay x, int helper, int from, int to) {
        for (int s = from + 1; s <= to; s++) {
            x.go(helper, s);
            x.pass(x.passage(s - 1, 1));
        }
    }

    /** One passage, a pitch that helper 0 rigs with rope 0; the helpers stand at the surface, at the time 10. */
    static CaveRelay riggedPitch(int drop, int minutes, int helpers, int limit) {
        CaveRelay x = new CaveRelay();
        x.begin(1);
        x.setPassage(0, drop, minutes);
        x.addRope(80);
        addHelpers(x, helpers, limit);
        x.take(0, 0);
        x.rig(0);
        x.pass(10);
        return x;
    }

    static void write(CaveRelay x, String text) {
        x.clearText();
        for (int i = 0; i < text.length(); i++) {
            x.append(text.charAt(i));
        }
    }
}
