/** Long runs of calls, drawn by a generator of its own, on the class and on the model of the document. */
public final class RandomRunsTest {
    private static final int RUNS = 4000;
    private static final int CALLS = 512;

    private interface Call {
        long answer();
    }

    private static final String[] NAMES = {"begin", "setPassage", "addRope", "addHelper", "setSilence", "go", "take",
        "lay", "rig", "takeOff", "carry", "send", "pass", "passage", "rope", "helper", "value", "message", "carried",
        "why", "minutesUp", "spare", "bestRope", "carryMinutes", "team", "reach", "meanTiredness", "append",
        "clearText", "carryOut", "undo"};

    private static final int[] ANSWERED = new int[NAMES.length];
    private static final int[] REFUSED = new int[NAMES.length];
    private static final int[] REASONS = new int[6];
    private static int ordersDone = 0;
    private static int turnedBack = 0;
    private static int minutesLate = 0;

    private long seed;
    private CaveRelay x;
    private Model model;
    private final StringBuilder story = new StringBuilder();

    private RandomRunsTest(long seed) {
        this.seed = seed * 7919 + 17;
    }

    public static void main(String[] args) {
        for (int run = 0; run < RUNS; run++) {
            String wrong = new RandomRunsTest(run).play(run % 4);
            if (wrong != null) {
                System.out.println("run " + run + ": " + wrong);
                System.exit(1);
            }
        }
        boolean all = true;
        for (int i = 0; i < NAMES.length; i++) {
            boolean canRefuse = !NAMES[i].matches("carryMinutes|team|meanTiredness|clearText|carryOut");
            if (ANSWERED[i] == 0 || canRefuse && REFUSED[i] == 0) {
                System.out.println("  never drawn as it should: " + NAMES[i]);
                all = false;
            }
        }
        for (int i = 0; i < REASONS.length; i++) {
            all = all && REASONS[i] > 0;
        }
        System.out.println("RandomRunsTest: " + RUNS + " runs as the model has them, " + ordersDone + " orders, "
                + ANSWERED[10] + " carries, " + turnedBack + " turned back, " + minutesLate + " minutes too late");
        if (!all || ordersDone == 0 || turnedBack == 0 || minutesLate == 0) {
            System.exit(1);
        }
    }

    private int below(int bound) {
        seed = seed * 6364136223846793005L + 1442695040888963407L;
        return (int) ((seed >>> 33) % bound);
    }

    private int among(int... values) {
        return values[below(values.length)];
    }

    /** Mostly a number from least to most, sometimes one beside them or far away. */
    private int near(int least, int most) {
        if (below(40) == 0) {
            return among(least - 1, most + 1, Integer.MIN_VALUE, Integer.MAX_VALUE, -1);
        }
        return least + below(most - least + 1);
    }

    private static int indexOf(String name) {
        for (int i = 0; i < NAMES.length; i++) {
            if (NAMES[i].equals(name)) {
                return i;
            }
        }
        throw new IllegalArgumentException(name);
    }

    private String play(int kind) {
        x = new CaveRelay();
        model = new Model();
        for (int i = 0; i < CALLS; i++) {
            String wrong = i < 12 && kind != 0 ? prepare(i, kind) : call(kind);
            if (wrong == null && x.digest() != model.digest()) {
                wrong = "the digest differs";
            }
            if (wrong != null) {
                return wrong + " in" + story;
            }
        }
        minutesLate += x.value(13);
        return null;
    }

    /** A cave with ropes and helpers to begin with, so that carries and turns come about. */
    private String prepare(int i, int kind) {
        if (i == 0) {
            int passages = kind == 1 ? 1 + below(3) : near(1, 7);
            return same("begin", passages + "", () -> x.begin(passages), () -> model.begin(passages));
        }
        if (i < 5) {
            int p = below(4);
            int drop = kind == 2 ? 0 : below(2) * below(40);
            int minutes = kind == 3 ? 1 + below(20) : 1 + below(kind == 2 ? 3 : 5);
            return same("setPassage", p + ", " + drop + ", " + minutes, () -> x.setPassage(p, drop, minutes),
                    () -> model.setPassage(p, drop, minutes));
        }
        if (i < 7) {
            int length = near(20, 80);
            return same("addRope", length + "", () -> x.addRope(length), () -> model.addRope(length));
        }
        int limit = kind == 3 ? near(30, 80) : near(kind == 2 ? 400 : 30, 600);
        return same("addHelper", limit + "", () -> x.addHelper(limit), () -> model.addHelper(limit));
    }

    private String call(int kind) {
        int draw = below(100);
        if (draw < 26) {
            return callGo();
        }
        if (draw < 41) {
            return callPass(kind);
        }
        if (draw < 56) {
            return callDeed();
        }
        if (draw < 63) {
            return callCarry();
        }
        if (draw < 80) {
            return callQuestion();
        }
        if (draw < 90) {
            return callText();
        }
        if (draw < 93) {
            return same("undo", "", () -> x.undo(), () -> model.undo());
        }
        return callCave(kind);
    }

    private String callGo() {
        int h = near(0, 5);
        int at = h >= 0 && h < x.value(2) ? x.helper(h, 1) : 0;
        int station = below(12) == 0 ? near(-1, 8) : at + among(-1, 1, 1);
        String wrong = same("why", h + ", " + station, () -> x.why(h, station), () -> model.why(h, station));
        if (wrong == null && h >= 0 && h < x.value(2)) {
            REASONS[x.why(h, station)]++;
        }
        return wrong != null ? wrong
                : same("go", h + ", " + station, () -> x.go(h, station), () -> model.go(h, station));
    }

    private String callPass(int kind) {
        int minutes = below(kind == 2 ? 80 : 8) == 0 ? near(1, 600) : kind == 2 ? near(1, 5) : near(1, 16);
        int[] standing = new int[6];
        for (int h = 0; h < x.value(2); h++) {
            standing[h] = x.helper(h, 2) == 0 && x.helper(h, 1) > 0 ? 1 : 0;
        }
        String wrong = same("pass", minutes + "", () -> x.pass(minutes), () -> model.pass(minutes));
        for (int h = 0; h < x.value(2); h++) {
            turnedBack += standing[h] == 1 && x.helper(h, 2) == 1 ? 1 : 0;
        }
        return wrong;
    }

    private String callDeed() {
        int h = near(0, 5);
        int r = near(0, 3);
        switch (below(6)) {
            case 0:
            case 1:
                return same("take", h + ", " + r, () -> x.take(h, r), () -> model.take(h, r));
            case 2:
                return same("rig", h + "", () -> x.rig(h), () -> model.rig(h));
            case 3:
                return below(3) > 0 ? same("rig", h + "", () -> x.rig(h), () -> model.rig(h))
                        : same("lay", h + "", () -> x.lay(h), () -> model.lay(h));
            case 4:
                return below(3) > 0 ? same("send", h + "", () -> x.send(h), () -> model.send(h))
                        : same("takeOff", h + "", () -> x.takeOff(h), () -> model.takeOff(h));
            default:
                return same("send", h + "", () -> x.send(h), () -> model.send(h));
        }
    }

    private String callCarry() {
        int team = x.team();
        String wrong = same("team", "", () -> x.team(), () -> model.team());
        if (wrong != null) {
            return wrong;
        }
        int set = below(8) == 0 ? near(0, 127) : below(6) == 0 ? team ^ 1 << below(6) : team;
        return same("carry", set + "", () -> x.carry(set), () -> model.carry(set));
    }

    private String callQuestion() {
        int i = near(0, 6);
        int what = near(0, 8);
        switch (below(13)) {
            case 0:
                return same("passage", i + ", " + what, () -> x.passage(i, what), () -> model.passage(i, what));
            case 1:
                return same("rope", i + ", " + what % 4, () -> x.rope(i, what % 4), () -> model.rope(i, what % 4));
            case 2:
                return same("helper", i + ", " + what, () -> x.helper(i, what), () -> model.helper(i, what));
            case 3:
                return same("value", i + what + "", () -> x.value(i + what), () -> model.value(i + what));
            case 4:
                return same("message", i + ", " + what % 4, () -> x.message(i, what % 4),
                        () -> model.message(i, what % 4));
            case 5:
                return same("carried", i + ", " + what % 4, () -> x.carried(i, what % 4),
                        () -> model.carried(i, what % 4));
            case 6:
                return same("minutesUp", i + "", () -> x.minutesUp(i), () -> model.minutesUp(i));
            case 7:
                return same("spare", i + "", () -> x.spare(i), () -> model.spare(i));
            case 8:
                return same("bestRope", i + "", () -> x.bestRope(i), () -> model.bestRope(i));
            case 9:
                return same("carryMinutes", "", () -> x.carryMinutes(), () -> model.carryMinutes());
            case 10:
                return same("meanTiredness", "", () -> Double.doubleToLongBits(x.meanTiredness()),
                        () -> Double.doubleToLongBits(model.meanTiredness()));
            default:
                return same("reach", i + "", () -> x.reach(i), () -> model.reach(i));
        }
    }

    private String callText() {
        if (below(5) == 0) {
            return same("append", "", () -> x.append(200), () -> model.append(200));
        }
        String wrong = same("clearText", "", () -> x.clearText(), () -> model.clearText());
        String text = orders();
        for (int i = 0; i < text.length() && wrong == null; i++) {
            char c = text.charAt(i);
            wrong = same("append", (int) c + "", () -> x.append(c), () -> model.append(c));
        }
        if (wrong != null) {
            return wrong;
        }
        wrong = same("carryOut", "", () -> x.carryOut(), () -> model.carryOut());
        return wrong;
    }

    private String orders() {
        StringBuilder text = new StringBuilder();
        int bound = below(10) == 0 ? 99 : 4 + below(86);
        while (text.length() < bound - 6) {
            int h = below(6);
            switch (below(6)) {
                case 0 -> text.append('r').append(h).append(';');
                case 1 -> text.append('t').append(h).append(below(8)).append(';');
                case 2 -> text.append('m').append(h).append(';');
                case 3 -> text.append('p').append(1 + below(30)).append(';');
                case 4 -> text.append('c').append(among(12, 123, 1234, 12345, 135, 245) == 12 ? "012" : "1235")
                        .append(';');
                default -> {
                    int at = h < x.value(2) ? x.helper(h, 1) : 1;
                    text.append('g').append(h).append((at + 1) % 8).append(';');
                }
            }
        }
        if (below(3) == 0) {
            spoil(text);
        }
        return text.toString();
    }

    private void spoil(StringBuilder text) {
        String signs = "grtcmp;0123456789 x";
        for (int i = below(3); i >= 0; i--) {
            char sign = below(9) == 0 ? (char) below(128) : signs.charAt(below(signs.length()));
            int at = below(text.length() + 1);
            switch (below(4)) {
                case 0 -> text.setLength(at);
                case 1 -> text.insert(at, sign);
                case 2 -> text.insert(at, among(0, 1) == 0 ? "p60" : "c1");
                default -> {
                    if (at < text.length()) {
                        text.setCharAt(at, sign);
                    }
                }
            }
        }
    }

    private String callCave(int kind) {
        switch (below(12)) {
            case 0: {
                int n = near(1, 7);
                return kind != 0 && below(8) > 0 ? null
                        : same("begin", n + "", () -> x.begin(n), () -> model.begin(n));
            }
            case 1: {
                int length = near(10, 80);
                return same("addRope", length + "", () -> x.addRope(length), () -> model.addRope(length));
            }
            case 2:
            case 3: {
                int limit = near(30, 600);
                return same("addHelper", limit + "", () -> x.addHelper(limit), () -> model.addHelper(limit));
            }
            case 4:
            case 5:
            case 6:
            case 7: {
                int first = Math.max(-1, x.value(3) + below(30) - 10);
                int last = first + (below(9) == 0 ? 980 + below(40) : near(0, 20));
                return same("setSilence", first + ", " + last, () -> x.setSilence(first, last),
                        () -> model.setSilence(first, last));
            }
            default: {
                int p = near(0, 6);
                int drop = below(3) == 0 ? near(0, 60) : 0;
                int minutes = near(1, kind == 3 ? 30 : 8);
                return same("setPassage", p + ", " + drop + ", " + minutes, () -> x.setPassage(p, drop, minutes),
                        () -> model.setPassage(p, drop, minutes));
            }
        }
    }

    private String same(String name, String arguments, Call call, Call due) {
        story.append("\n  ").append(name).append('(').append(arguments).append(')');
        int counted = indexOf(name);
        String got = told(call, counted);
        String want = told(due, -1);
        story.append(" = ").append(got);
        if (name.equals("carryOut") && got.equals(want) && !got.startsWith("-")) {
            ordersDone += Integer.parseInt(got);
        }
        return got.equals(want) ? null : name + " answered " + got + ", the model " + want;
    }

    /** The answer or the exception; one that the class does not throw by its own words is told as the machine's. */
    private static String told(Call call, int counted) {
        try {
            long answer = call.answer();
            if (counted >= 0) {
                ANSWERED[counted]++;
            }
            return Long.toString(answer);
        } catch (RuntimeException e) {
            String thrower = e.getStackTrace().length > 0 ? e.getStackTrace()[0].getMethodName() : "";
            if (counted >= 0) {
                REFUSED[counted]++;
            }
            boolean own = counted < 0 || thrower.startsWith("require");
            return (own ? "" : "the machine's ") + e.getClass().getName();
        }
    }
}
