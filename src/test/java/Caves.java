/** Caves that several tests begin with. */
final class Caves {
    private Caves() {
    }

    /** A cave of crawls, each of them with the same minutes. */
    static CaveRelay crawls(int passages, int minutes) {
        CaveRelay x = new CaveRelay();
        x.begin(passages);
        for (int i = 0; i < passages; i++) {
            x.setPassage(i, 0, minutes);
        }
        return x;
    }

    static void addHelpers(CaveRelay x, int count, int limit) {
        for (int i = 0; i < count; i++) {
            x.addHelper(limit);
        }
    }

    /** Sends the first helpers from the surface down, one passage after the other. */
    static void walkDown(CaveRelay x, int helpers, int station) {
        for (int s = 1; s <= station; s++) {
            for (int h = 0; h < helpers; h++) {
                x.go(h, s);
            }
            x.pass(x.passage(s - 1, 1));
        }
    }

    /** Sends one helper down from a station to another. */
    static void walkDownFrom(CaveRelay x, int helper, int from, int to) {
        for (int s = from + 1; s <= to; s++) {
            x.go(helper, s);
            x.pass(x.passage(s - 1, 1));
        }
    }

    /** One passage, a pitch that helper 0 rigs with rope 0; the helpers stand at the surface, at the time 10. */
    static CaveRelay riggedPitch(int drop, int minutes, int helpers, int limit) {
        CaveRelay x = new CaveRelay();
        x.begin(1);
        x.setPassage(0, drop, minutes);
        x.addRope(80);
        addHelpers(x, helpers, limit);
        x.take(0, 0);
        x.rig(0);
        x.pass(10);
        return x;
    }

    static CaveRelay begun(int passages) {
        CaveRelay x = new CaveRelay();
        x.begin(passages);
        return x;
    }

    /** Ropes of 20, 21, .. meters. */
    static CaveRelay ropes(int count) {
        CaveRelay x = new CaveRelay();
        for (int i = 0; i < count; i++) {
            x.addRope(20 + i);
        }
        return x;
    }

    /** Helpers with the limits 100, 101, .. */
    static CaveRelay helpers(int count) {
        CaveRelay x = new CaveRelay();
        for (int i = 0; i < count; i++) {
            x.addHelper(100 + i);
        }
        return x;
    }

    /** A cave without helpers, at a time. */
    static CaveRelay atTime(int time) {
        CaveRelay x = new CaveRelay();
        for (int left = time; left > 0; left -= 600) {
            x.pass(Math.min(left, 600));
        }
        return x;
    }

    static CaveRelay later(CaveRelay x, int minutes) {
        x.pass(minutes);
        return x;
    }

    /** Crawls, and helpers with the limit 600 at the stretcher, at the lowest station. */
    static CaveRelay atStretcher(int passages, int minutes, int helpers) {
        CaveRelay x = crawls(passages, minutes);
        addHelpers(x, helpers, 600);
        walkDown(x, helpers, passages);
        return x;
    }

    /** Three helpers carry the stretcher up the only passage, which takes 6 minutes; none has passed. */
    static CaveRelay carrying() {
        CaveRelay x = atStretcher(1, 2, 3);
        x.carry(7);
        return x;
    }

    /** Helper 0 stands at a station of crawls that take 2 minutes each, and has begun to walk to one beside it. */
    static CaveRelay walking(int passages, int from, int to) {
        CaveRelay x = standing(passages, from);
        x.go(0, to);
        return x;
    }

    /** Helper 0, with the limit 600, stands at a station of crawls that take 2 minutes each. */
    static CaveRelay standing(int passages, int station) {
        CaveRelay x = crawls(passages, 2);
        x.addHelper(600);
        walkDown(x, 1, station);
        return x;
    }

    /** Helper 0, with the limit 600 and a tiredness of 5 to 100, stands at station 1 of two crawls. */
    static CaveRelay tired(int tiredness) {
        CaveRelay x = crawls(2, tiredness / 5);
        x.addHelper(600);
        for (int station : new int[] {1, 0, 1, 0}) {
            x.pass(x.go(0, station));
        }
        x.setPassage(0, 0, tiredness / 5 + tiredness % 5);
        x.pass(x.go(0, 1));
        return x;
    }

    /** Helper 0, with the limit 600 and a rope of 80 meters, stands at a pitch below crawls of 2 minutes each. */
    static CaveRelay aboveAPitch(int passages, int station) {
        CaveRelay x = crawls(passages, 2);
        x.setPassage(station, 20, 2);
        x.addRope(80);
        x.addHelper(600);
        x.take(0, 0);
        walkDown(x, 1, station);
        return x;
    }

    /** The same, and helper 0 has begun to rig. */
    static CaveRelay rigging(int passages, int station) {
        CaveRelay x = aboveAPitch(passages, station);
        x.rig(0);
        return x;
    }

    /**
     * Something of all: ropes, helpers, the stretcher on its second way up, messages that came and others on their
     * way, a silence, minutes too late, and a text of two orders that are possible.
     */
    static CaveRelay busy() {
        CaveRelay x = crawls(2, 2);
        x.addRope(20);
        x.addRope(80);
        addHelpers(x, 4, 600);
        x.addHelper(30);
        x.addHelper(100);
        walkDown(x, 5, 2);
        x.carry(7);
        x.send(3);
        x.pass(6);
        x.setPassage(1, 60, 2);
        x.pass(30);
        x.setSilence(30, 500);
        x.send(3);
        x.send(0);
        x.take(5, 1);
        x.carry(7);
        x.pass(1);
        write(x, "p1;m5;");
        return x;
    }

    static CaveRelay busyBegun() {
        CaveRelay x = busy();
        x.begin(2);
        return x;
    }

    static void write(CaveRelay x, String text) {
        x.clearText();
        for (int i = 0; i < text.length(); i++) {
            x.append(text.charAt(i));
        }
    }
}
