import java.util.ArrayDeque;
import java.util.ArrayList;
import java.util.Deque;
import java.util.List;
import java.util.regex.Pattern;

/**
 * The document once more, told in another way and without regard to speed, for RandomRunsTest:
 * a reading that the class and this model do not share shows there as a difference.
 */
final class Model {
    private enum Doing { STANDS, WALKS, RIGS }

    private static final class Passage {
        int drop;
        int minutes;

        Passage(int drop, int minutes) {
            this.drop = drop;
            this.minutes = minutes;
        }
    }

    private static final class Rope {
        int length;
        int station = 0;
        int helper = -1;
        int passage = -1;
    }

    private static final class Person {
        int limit;
        Doing doing = Doing.STANDS;
        int from = 0;
        int to = -1;
        int left = 0;
        int tired = 0;
        int below = 0;
        boolean carries = false;

        boolean isBelow() {
            return doing == Doing.WALKS || from > 0;
        }
    }

    private static final class State {
        List<Passage> passages = new ArrayList<>();
        List<Rope> ropes = new ArrayList<>();
        List<Person> people = new ArrayList<>();
        List<int[]> messages = new ArrayList<>();
        List<int[]> log = new ArrayList<>();
        int time = 0;
        int stretcher = 0;
        int arrived = 0;
        int carries = 0;
        int first = 0;
        int last = 0;
        int late = 0;

        State(int passageCount) {
            int[][] initial = {{0, 5}, {20, 8}, {0, 6}, {35, 10}};
            for (int i = 0; i < passageCount; i++) {
                passages.add(i < 4 ? new Passage(initial[i][0], initial[i][1]) : new Passage(0, 5));
            }
            stretcher = passageCount;
        }

        State copy() {
            State s = new State(0);
            for (Passage p : passages) {
                s.passages.add(new Passage(p.drop, p.minutes));
            }
            for (Rope r : ropes) {
                Rope c = new Rope();
                c.length = r.length;
                c.station = r.station;
                c.helper = r.helper;
                c.passage = r.passage;
                s.ropes.add(c);
            }
            for (Person h : people) {
                Person c = new Person();
                c.limit = h.limit;
                c.doing = h.doing;
                c.from = h.from;
                c.to = h.to;
                c.left = h.left;
                c.tired = h.tired;
                c.below = h.below;
                c.carries = h.carries;
                s.people.add(c);
            }
            for (int[] m : messages) {
                s.messages.add(m.clone());
            }
            s.log.addAll(log);
            s.time = time;
            s.stretcher = stretcher;
            s.arrived = arrived;
            s.carries = carries;
            s.first = first;
            s.last = last;
            s.late = late;
            return s;
        }
    }

    private State now = new State(4);
    private final Deque<State> saved = new ArrayDeque<>();
    private String text = "";

    private void save() {
        saved.push(now.copy());
        if (saved.size() > 4) {
            saved.removeLast();
        }
    }

    private static void index(int i, int size) {
        if (i < 0 || i >= size) {
            throw new IndexOutOfBoundsException();
        }
    }

    private static void argument(boolean good) {
        if (!good) {
            throw new IllegalArgumentException();
        }
    }

    private static void state(boolean good) {
        if (!good) {
            throw new IllegalStateException();
        }
    }

    private Person person(int h) {
        index(h, now.people.size());
        return now.people.get(h);
    }

    private Rope ropeOf(int h) {
        for (Rope r : now.ropes) {
            if (r.helper == h) {
                return r;
            }
        }
        return null;
    }

    private Rope ropeAt(int passage) {
        for (Rope r : now.ropes) {
            if (r.passage == passage) {
                return r;
            }
        }
        return null;
    }

    private int walkers(int passage) {
        int n = 0;
        for (Person h : now.people) {
            boolean down = h.from == passage && h.to == passage + 1;
            boolean up = h.to == passage && h.from == passage + 1;
            n += h.doing == Doing.WALKS && (down || up) ? 1 : 0;
        }
        return n;
    }

    private int rigger(int passage) {
        for (int h = 0; h < now.people.size(); h++) {
            if (now.people.get(h).doing == Doing.RIGS && now.people.get(h).from == passage) {
                return h;
            }
        }
        return -1;
    }

    private boolean closed(int passage) {
        return now.passages.get(passage).drop > 0 && ropeAt(passage) == null;
    }

    private int up(int station) {
        return station == 0 ? 0 : now.passages.get(station - 1).minutes + up(station - 1);
    }

    private boolean late(Person h, int station, int after) {
        int below = h.isBelow() ? h.below : 0;
        return below + after + up(station) > h.limit;
    }

    int begin(int passages) {
        argument(passages >= 1 && passages <= 7);
        save();
        int before = now.time;
        now = new State(passages);
        return before;
    }

    int setPassage(int p, int drop, int minutes) {
        index(p, now.passages.size());
        argument(drop >= 0 && drop <= 60 && minutes >= 1 && minutes <= 30);
        state(ropeAt(p) == null && rigger(p) < 0 && walkers(p) == 0);
        save();
        int before = now.passages.get(p).drop;
        now.passages.set(p, new Passage(drop, minutes));
        return before;
    }

    int addRope(int length) {
        argument(length >= 10 && length <= 80);
        state(now.ropes.size() < 8);
        save();
        Rope r = new Rope();
        r.length = length;
        now.ropes.add(r);
        return now.ropes.size() - 1;
    }

    int addHelper(int limit) {
        argument(limit >= 30 && limit <= 600);
        state(now.people.size() < 6);
        save();
        Person h = new Person();
        h.limit = limit;
        now.people.add(h);
        return now.people.size() - 1;
    }

    int setSilence(int first, int last) {
        argument(first >= 0 && first <= 100000 && last >= first && last <= 100000);
        save();
        int before = now.last;
        now.first = first;
        now.last = last;
        return before;
    }

    int why(int h, int station) {
        return refusal(person(h), station);
    }

    private int refusal(Person h, int station) {
        if (h.doing != Doing.STANDS) {
            return 1;
        }
        if (station < 0 || station > now.passages.size() || Math.abs(station - h.from) != 1) {
            return 2;
        }
        int p = Math.min(station, h.from);
        boolean goesUp = station < h.from;
        if (closed(p)) {
            return 3;
        }
        int minutes = now.passages.get(p).minutes;
        int effort = minutes * (goesUp && now.passages.get(p).drop > 0 ? 2 : 1);
        if (h.tired + effort > 100) {
            return 4;
        }
        return !goesUp && late(h, station, minutes) ? 5 : 0;
    }

    private int walk(Person h, int station) {
        h.doing = Doing.WALKS;
        h.to = station;
        h.left = now.passages.get(Math.min(station, h.from)).minutes;
        return h.left;
    }

    int go(int h, int station) {
        state(why(h, station) == 0);
        save();
        return walk(now.people.get(h), station);
    }

    int take(int h, int rope) {
        Person p = person(h);
        index(rope, now.ropes.size());
        Rope r = now.ropes.get(rope);
        state(p.doing == Doing.STANDS && ropeOf(h) == null && r.station == p.from);
        save();
        r = now.ropes.get(rope);
        r.station = -1;
        r.helper = h;
        return r.length;
    }

    int lay(int h) {
        Person p = person(h);
        state(p.doing == Doing.STANDS && ropeOf(h) != null);
        save();
        Rope r = ropeOf(h);
        r.helper = -1;
        r.station = p.from;
        return now.ropes.indexOf(r);
    }

    int rig(int h) {
        Person p = person(h);
        Rope r = ropeOf(h);
        state(p.doing == Doing.STANDS && r != null && p.from < now.passages.size());
        state(closed(p.from) && rigger(p.from) < 0 && r.length >= now.passages.get(p.from).drop + 3);
        state(!late(p, p.from, 10));
        save();
        p.doing = Doing.RIGS;
        p.left = 10;
        return p.from;
    }

    int takeOff(int h) {
        Person p = person(h);
        state(p.doing == Doing.STANDS && ropeOf(h) == null && ropeAt(p.from) != null && walkers(p.from) == 0);
        save();
        Rope r = ropeAt(p.from);
        r.passage = -1;
        r.helper = h;
        return now.ropes.indexOf(r);
    }

    private boolean isCarried() {
        for (Person h : now.people) {
            if (h.carries) {
                return true;
            }
        }
        return false;
    }

    int team() {
        if (isCarried() || now.stretcher == 0 || closed(now.stretcher - 1)) {
            return 0;
        }
        int minutes = 3 * now.passages.get(now.stretcher - 1).minutes;
        int set = 0;
        for (int h = 0; h < now.people.size(); h++) {
            Person p = now.people.get(h);
            boolean there = p.doing == Doing.STANDS && p.from == now.stretcher;
            if (there && p.tired + minutes * 2 <= 100 && !late(p, now.stretcher - 1, minutes)) {
                set += 1 << h;
            }
        }
        return set;
    }

    int carry(int set) {
        int number = 0;
        for (int bit = 0; bit < 32; bit++) {
            if ((set >>> bit & 1) == 1) {
                argument(bit < now.people.size());
                number++;
            }
        }
        argument(number >= 3 && number <= 6);
        state((set & ~team()) == 0);
        save();
        for (int h = 0; h < now.people.size(); h++) {
            if ((set >> h & 1) == 1) {
                Person p = now.people.get(h);
                walk(p, now.stretcher - 1);
                p.left *= 3;
                p.carries = true;
            }
        }
        now.log.add(0, new int[] {now.time, now.stretcher, set});
        while (now.log.size() > 12) {
            now.log.remove(12);
        }
        now.carries++;
        return 3 * now.passages.get(now.stretcher - 1).minutes;
    }

    int send(int h) {
        Person p = person(h);
        state(p.doing == Doing.STANDS && (p.from == 0 || now.messages.size() < 10));
        save();
        if (p.from == 0) {
            now.arrived++;
        } else {
            now.messages.add(new int[] {h, now.time, p.from});
        }
        return now.messages.size();
    }

    int pass(int minutes) {
        argument(minutes >= 1 && minutes <= 600);
        state(now.time + minutes <= 100000);
        save();
        int before = now.arrived;
        for (int i = 0; i < minutes; i++) {
            minute();
        }
        return now.arrived - before;
    }

    private void minute() {
        for (int h = 0; h < now.people.size(); h++) {
            minute(h, now.people.get(h));
        }
        if (!isSilent(now.time)) {
            List<int[]> onTheWay = new ArrayList<>();
            for (int[] m : now.messages) {
                m[2]--;
                if (m[2] == 0) {
                    now.arrived++;
                } else {
                    onTheWay.add(m);
                }
            }
            now.messages = onTheWay;
        }
        now.time++;
    }

    private boolean isSilent(int time) {
        return time >= now.first && time < now.last;
    }

    private void minute(int h, Person p) {
        boolean stoodAtSurface = p.doing == Doing.STANDS && p.from == 0;
        if (p.doing == Doing.STANDS && p.isBelow() && late(p, p.from, 1) && refusal(p, p.from - 1) == 0) {
            walk(p, p.from - 1);
        }
        if (p.doing != Doing.STANDS) {
            p.left--;
        }
        if (p.doing == Doing.WALKS) {
            boolean upPitch = p.to < p.from && now.passages.get(p.to).drop > 0;
            p.tired += upPitch || p.carries ? 2 : 1;
            if (p.left == 0) {
                p.from = p.to;
                p.to = -1;
                p.doing = Doing.STANDS;
                if (p.carries) {
                    now.stretcher = p.from;
                }
                p.carries = false;
            }
        } else if (p.doing == Doing.RIGS && p.left == 0) {
            Rope r = ropeOf(h);
            r.helper = -1;
            r.passage = p.from;
            p.doing = Doing.STANDS;
        }
        if (stoodAtSurface) {
            p.tired = Math.max(0, p.tired - 1);
        }
        if (p.isBelow()) {
            p.below++;
            now.late += p.below > p.limit ? 1 : 0;
        } else {
            p.below = 0;
        }
    }

    int passage(int p, int what) {
        index(p, now.passages.size());
        argument(what >= 0 && what <= 4);
        int rope = now.ropes.indexOf(ropeAt(p));
        return new int[] {now.passages.get(p).drop, now.passages.get(p).minutes, rope, walkers(p), rigger(p)}[what];
    }

    int rope(int rope, int what) {
        index(rope, now.ropes.size());
        argument(what >= 0 && what <= 2);
        Rope r = now.ropes.get(rope);
        int state = r.station >= 0 ? 0 : r.helper >= 0 ? 1 : 2;
        return new int[] {r.length, state, Math.max(r.station, Math.max(r.helper, r.passage))}[what];
    }

    int helper(int h, int what) {
        Person p = person(h);
        argument(what >= 0 && what <= 8);
        return new int[] {p.limit, p.from, p.doing.ordinal(), p.to, p.left, now.ropes.indexOf(ropeOf(h)), p.tired,
            p.below, p.carries ? 1 : 0}[what];
    }

    int value(int what) {
        argument(what >= 0 && what <= 13);
        int below = 0;
        for (Person p : now.people) {
            below += p.isBelow() ? 1 : 0;
        }
        int closed = 0;
        for (int i = 0; i < now.passages.size(); i++) {
            closed += closed(i) ? 1 : 0;
        }
        return new int[] {now.passages.size(), now.ropes.size(), now.people.size(), now.time, now.stretcher,
            isCarried() ? 1 : 0, below, now.messages.size(), now.arrived, now.carries, closed, now.first, now.last,
            now.late}[what];
    }

    int message(int i, int what) {
        index(i, now.messages.size());
        argument(what >= 0 && what <= 2);
        return now.messages.get(i)[what];
    }

    int carried(int i, int what) {
        index(i, now.log.size());
        argument(what >= 0 && what <= 2);
        return now.log.get(i)[what];
    }

    private boolean closedUp(int station) {
        return station > 0 && (closed(station - 1) || closedUp(station - 1));
    }

    int minutesUp(int h) {
        Person p = person(h);
        return p.doing != Doing.STANDS || closedUp(p.from) ? -1 : up(p.from);
    }

    int spare(int h) {
        Person p = person(h);
        if (minutesUp(h) == -1 || p.from == 0) {
            return -1;
        }
        int stays = 0;
        while (!late(p, p.from, stays + 1)) {
            stays++;
        }
        return stays;
    }

    int bestRope(int p) {
        index(p, now.passages.size());
        int best = -1;
        for (int i = now.ropes.size() - 1; i >= 0; i--) {
            Rope r = now.ropes.get(i);
            boolean fits = r.passage < 0 && r.length - now.passages.get(p).drop >= 3;
            if (fits && (best < 0 || r.length <= now.ropes.get(best).length)) {
                best = i;
            }
        }
        return now.passages.get(p).drop == 0 ? -1 : best;
    }

    int carryMinutes() {
        return isCarried() || closedUp(now.stretcher) ? -1 : 3 * up(now.stretcher);
    }

    int reach(int h) {
        Person p = person(h);
        if (p.doing != Doing.STANDS) {
            return -1;
        }
        int station = p.from;
        int minutes = 0;
        while (station > 0 && minutes <= 1000) {
            station -= isSilent(now.time + minutes) ? 0 : 1;
            minutes++;
        }
        return minutes > 1000 ? -1 : minutes;
    }

    double meanTiredness() {
        int sum = 0;
        for (Person p : now.people) {
            sum += p.tired;
        }
        return now.people.isEmpty() ? 0.0 : (double) sum / (double) now.people.size();
    }

    int append(int value) {
        argument(value >= 0 && value <= 127);
        state(text.length() < 90);
        text += (char) value;
        return text.length();
    }

    int clearText() {
        int before = text.length();
        text = "";
        return before;
    }

    private static final Pattern WHOLE = Pattern.compile("(g[0-5][0-7]|r[0-5]|t[0-5][0-7]|m[0-5]|p[0-9]{1,3});");
    private static final Pattern PART = Pattern.compile("g([0-5][0-7]?)?|r[0-5]?|t([0-5][0-7]?)?|m[0-5]?|p[0-9]{0,3}");
    private static final Pattern PART_OF_TEAM = Pattern.compile("c0?1?2?3?4?5?");
    private static final Pattern NUMBER = Pattern.compile("p[0-9]{1,3}");

    private static boolean isWhole(String order) {
        boolean team = order.length() >= 5 && order.endsWith(";")
                && PART_OF_TEAM.matcher(order.substring(0, order.length() - 1)).matches();
        return team || WHOLE.matcher(order).matches();
    }

    private static boolean isOutOfRange(String order) {
        if (!NUMBER.matcher(order).matches()) {
            return false;
        }
        int number = Integer.parseInt(order.substring(1));
        return number < 1 || number > 600;
    }

    private int syntaxError() {
        String order = "";
        for (int i = 0; i < text.length(); i++) {
            char c = text.charAt(i);
            if (isOutOfRange(order) && (c < '0' || c > '9')) {
                return i - order.length() + 1;
            }
            order += c;
            if (isWhole(order)) {
                order = "";
            } else if (!PART.matcher(order).matches() && !PART_OF_TEAM.matcher(order).matches()) {
                return i;
            }
        }
        if (isOutOfRange(order)) {
            return text.length() - order.length() + 1;
        }
        return order.isEmpty() ? -1 : text.length();
    }

    int carryOut() {
        int wrong = syntaxError();
        if (wrong >= 0) {
            return -10 - wrong;
        }
        State before = now.copy();
        List<State> savedBefore = new ArrayList<>(saved);
        int done = 0;
        try {
            for (String order : text.isEmpty() ? new String[0] : text.split(";")) {
                obey(order);
                done++;
            }
        } catch (RuntimeException e) {
            // the first order that is not possible
        }
        saved.clear();
        saved.addAll(savedBefore);
        saved.push(before);
        if (saved.size() > 4) {
            saved.removeLast();
        }
        return done;
    }

    private void obey(String order) {
        int a = order.charAt(1) - '0';
        int b = order.length() > 2 ? order.charAt(2) - '0' : 0;
        switch (order.charAt(0)) {
            case 'g' -> go(a, b);
            case 'r' -> rig(a);
            case 't' -> take(a, b);
            case 'm' -> send(a);
            case 'p' -> pass(Integer.parseInt(order.substring(1)));
            default -> {
                int set = 0;
                for (char c : order.substring(1).toCharArray()) {
                    set |= 1 << c - '0';
                }
                carry(set);
            }
        }
    }

    int undo() {
        state(!saved.isEmpty());
        now = saved.pop();
        return saved.size();
    }

    long digest() {
        List<Integer> all = new ArrayList<>();
        all.add(text.length());
        for (int w = 0; w < 14; w++) {
            all.add(value(w));
        }
        for (int i = 0; i < 5 * now.passages.size(); i++) {
            all.add(passage(i / 5, i % 5));
        }
        for (int i = 0; i < 3 * now.ropes.size(); i++) {
            all.add(rope(i / 3, i % 3));
        }
        for (int i = 0; i < 9 * now.people.size(); i++) {
            all.add(helper(i / 9, i % 9));
        }
        for (int[] m : now.messages) {
            all.add(m[0]);
            all.add(m[1]);
            all.add(m[2]);
        }
        for (int[] c : now.log) {
            all.add(c[0]);
            all.add(c[1]);
            all.add(c[2]);
        }
        all.add(saved.size());
        long h = 3613;
        for (int v : all) {
            h = 31 * h + v;
        }
        return h;
    }
}
