/** An exercise of cave rescue; README.md tells how to use it. */
public final class CaveRelay {
    public static final int NONE = -1;

    private static final int MOST_PASSAGES = 7;
    private static final int MOST_ROPES = 8;
    private static final int MOST_HELPERS = 6;
    private static final int MOST_MESSAGES = 10;
    private static final int MOST_LOGGED = 12;
    private static final int MOST_BYTES = 90;
    private static final int MOST_SAVED = 4;

    private static final int INITIAL_COUNT = 4;
    private static final int[] INITIAL_DROPS = {0, 20, 0, 35, 0, 0, 0};
    private static final int[] INITIAL_MINUTES = {5, 8, 6, 10, 5, 5, 5};

    private static final int LAST_TIME = 100000;
    private static final int LONGEST_PASS = 600;
    private static final int LONGEST_REACH = 1000;
    private static final int RIG_MINUTES = 10;
    private static final int SPARE_ROPE = 3;
    private static final int MOST_TIREDNESS = 100;
    private static final int FEWEST_CARRIERS = 3;
    private static final int CARRY_SLOWNESS = 3;

    private static final int STANDING = 0;
    private static final int WALKING = 1;
    private static final int RIGGING = 2;

    private static final int LYING = 0;
    private static final int WITH_HELPER = 1;
    private static final int RIGGED = 2;

    private static final int HASH_START = 3613;

    private final Cave cave = new Cave();
    private final Cave[] saved = new Cave[MOST_SAVED];
    private int savedCount = 0;
    private final Text text = new Text();

    public CaveRelay() {
        for (int i = 0; i < MOST_SAVED; i++) {
            saved[i] = new Cave();
        }
    }

    // ---- cave

    public int begin(int passages) throws IllegalArgumentException {
        requireRange(passages, 1, MOST_PASSAGES);
        int timeBefore = cave.time;
        save();
        cave.startAnew(passages);
        return timeBefore;
    }

    public int setPassage(int passage, int drop, int minutes)
            throws IndexOutOfBoundsException, IllegalArgumentException, IllegalStateException {
        requireIndex(passage, cave.passages.count);
        requireRange(drop, 0, 60);
        requireRange(minutes, 1, 30);
        requirePossible(!cave.isInUse(passage));
        int dropBefore = cave.passages.dropOf(passage);
        save();
        cave.passages.change(passage, drop, minutes);
        return dropBefore;
    }

    public int addRope(int length) throws IllegalArgumentException, IllegalStateException {
        requireRange(length, 10, 80);
        requirePossible(cave.ropes.count < MOST_ROPES);
        save();
        return cave.ropes.addOne(length);
    }

    public int addHelper(int limit) throws IllegalArgumentException, IllegalStateException {
        requireRange(limit, 30, 600);
        requirePossible(cave.helperCount < MOST_HELPERS);
        save();
        return cave.addOne(limit);
    }

    public int setSilence(int first, int last) throws IllegalArgumentException {
        requireRange(first, 0, LAST_TIME);
        requireRange(last, first, LAST_TIME);
        int lastBefore = cave.silenceLast;
        save();
        cave.silenceFirst = first;
        cave.silenceLast = last;
        return lastBefore;
    }

    // ---- deeds

    public int go(int helper, int station) throws IndexOutOfBoundsException, IllegalStateException {
        requireIndex(helper, cave.helperCount);
        requirePossible(cave.canWalk(helper, station));
        save();
        return cave.startWalk(helper, station);
    }

    public int take(int helper, int rope) throws IndexOutOfBoundsException, IllegalStateException {
        requireIndex(helper, cave.helperCount);
        requireIndex(rope, cave.ropes.count);
        requirePossible(cave.canTake(helper, rope));
        save();
        cave.takeRope(helper, rope);
        return cave.ropes.lengthOf(rope);
    }

    public int lay(int helper) throws IndexOutOfBoundsException, IllegalStateException {
        requireIndex(helper, cave.helperCount);
        requirePossible(cave.canLay(helper));
        save();
        return cave.layRope(helper);
    }

    public int rig(int helper) throws IndexOutOfBoundsException, IllegalStateException {
        requireIndex(helper, cave.helperCount);
        requirePossible(cave.canRig(helper));
        save();
        return cave.startRig(helper);
    }

    public int takeOff(int helper) throws IndexOutOfBoundsException, IllegalStateException {
        requireIndex(helper, cave.helperCount);
        requirePossible(cave.canUnrig(helper));
        save();
        return cave.unrig(helper);
    }

    public int carry(int helpers) throws IllegalArgumentException, IllegalStateException {
        requireArgument(cave.isTeam(helpers));
        requirePossible(cave.canCarry(helpers));
        save();
        return cave.startCarry(helpers);
    }

    public int send(int helper) throws IndexOutOfBoundsException, IllegalStateException {
        requireIndex(helper, cave.helperCount);
        requirePossible(cave.canSend(helper));
        save();
        cave.sendFrom(helper);
        return cave.messages.count;
    }

    public int pass(int minutes) throws IllegalArgumentException, IllegalStateException {
        requireRange(minutes, 1, LONGEST_PASS);
        requirePossible(cave.canPass(minutes));
        save();
        return cave.letPass(minutes);
    }

    // ---- values

    public int passage(int passage, int what) throws IndexOutOfBoundsException, IllegalArgumentException {
        requireIndex(passage, cave.passages.count);
        requireRange(what, 0, 4);
        return cave.aboutPassage(passage, what);
    }

    public int rope(int rope, int what) throws IndexOutOfBoundsException, IllegalArgumentException {
        requireIndex(rope, cave.ropes.count);
        requireRange(what, 0, 2);
        return cave.ropes.about(rope, what);
    }

    public int helper(int helper, int what) throws IndexOutOfBoundsException, IllegalArgumentException {
        requireIndex(helper, cave.helperCount);
        requireRange(what, 0, 8);
        return cave.helpers[helper].about(what);
    }

    public int value(int what) throws IllegalArgumentException {
        requireRange(what, 0, 13);
        return cave.about(what);
    }

    public int message(int index, int what) throws IndexOutOfBoundsException, IllegalArgumentException {
        requireIndex(index, cave.messages.count);
        requireRange(what, 0, 2);
        return cave.messages.about(index, what);
    }

    public int carried(int index, int what) throws IndexOutOfBoundsException, IllegalArgumentException {
        requireIndex(index, cave.log.kept);
        requireRange(what, 0, 2);
        return cave.log.about(index, what);
    }

    public int why(int helper, int station) throws IndexOutOfBoundsException {
        requireIndex(helper, cave.helperCount);
        return cave.refusal(cave.helpers[helper], station);
    }

    // ---- what if

    public int minutesUp(int helper) throws IndexOutOfBoundsException {
        requireIndex(helper, cave.helperCount);
        return cave.wayUpOf(cave.helpers[helper]);
    }

    public int spare(int helper) throws IndexOutOfBoundsException {
        requireIndex(helper, cave.helperCount);
        return cave.spareOf(cave.helpers[helper]);
    }

    public int bestRope(int passage) throws IndexOutOfBoundsException {
        requireIndex(passage, cave.passages.count);
        if (!cave.passages.isPitch(passage)) {
            return NONE;
        }
        return cave.ropes.shortestFree(cave.passages.dropOf(passage));
    }

    public int carryMinutes() {
        if (cave.stretcherCarried || !cave.passages.isOpenUp(cave.stretcher)) {
            return NONE;
        }
        return CARRY_SLOWNESS * cave.passages.wayUp(cave.stretcher);
    }

    public int team() {
        return cave.fitCarriers();
    }

    public int reach(int helper) throws IndexOutOfBoundsException {
        requireIndex(helper, cave.helperCount);
        return cave.reachOf(cave.helpers[helper]);
    }

    public double meanTiredness() {
        int count = cave.helperCount;
        if (count == 0) {
            return 0.0;
        }
        return (double) cave.sumOfTiredness() / (double) count;
    }

    // ---- text

    public int append(int value) throws IllegalArgumentException, IllegalStateException {
        requireRange(value, 0, 127);
        requirePossible(text.length < MOST_BYTES);
        text.add(value);
        return text.length;
    }

    public int clearText() {
        int lengthBefore = text.length;
        text.length = 0;
        return lengthBefore;
    }

    public int carryOut() {
        int wrong = text.firstWrong();
        if (wrong != NONE) {
            return -10 - wrong;
        }
        save();
        int done = 0;
        int at = 0;
        // An order has a byte at least, so there are fewer orders than bytes.
        for (int i = 0; i < MOST_BYTES && at < text.length; i++) {
            if (!canObey(at)) {
                return done;
            }
            obey(at);
            done++;
            at = text.behindOrder(at);
        }
        return done;
    }

    // ---- state

    public int undo() throws IllegalStateException {
        requirePossible(savedCount > 0);
        savedCount--;
        cave.copyFrom(saved[savedCount]);
        return savedCount;
    }

    public long digest() {
        long h = 31L * HASH_START + text.length;
        h = cave.hash(h);
        return 31L * h + savedCount;
    }

    // ---- inside

    private static void requireIndex(int index, int count) {
        if (index < 0 || index >= count) {
            throw new IndexOutOfBoundsException("there is no such thing");
        }
    }

    private static void requireRange(int value, int least, int most) {
        requireArgument(value >= least && value <= most);
    }

    private static void requireArgument(boolean good) {
        if (!good) {
            throw new IllegalArgumentException("the argument is out of range");
        }
    }

    private static void requirePossible(boolean possible) {
        if (!possible) {
            throw new IllegalStateException("this is not possible now");
        }
    }

    private void save() {
        if (savedCount >= MOST_SAVED) {
            dropOldest();
        }
        saved[savedCount].copyFrom(cave);
        savedCount++;
    }

    private void dropOldest() {
        // The oldest one's rows are used again, so that a save makes no object.
        Cave oldest = saved[0];
        for (int i = 1; i < MOST_SAVED; i++) {
            saved[i - 1] = saved[i];
        }
        saved[MOST_SAVED - 1] = oldest;
        savedCount = MOST_SAVED - 1;
    }

    private boolean canObey(int at) {
        int first = text.digitAt(at + 1);
        int second = text.digitAt(at + 2);
        switch (text.byteAt(at)) {
            case 'g':
                return cave.canWalk(first, second);
            case 't':
                return cave.canTake(first, second);
            case 'r':
                return cave.canRig(first);
            case 'm':
                return cave.canSend(first);
            case 'c':
                return cave.isTeam(text.setAt(at + 1)) && cave.canCarry(text.setAt(at + 1));
            default:
                return cave.canPass(text.numberAt(at + 1));
        }
    }

    private void obey(int at) {
        int first = text.digitAt(at + 1);
        int second = text.digitAt(at + 2);
        switch (text.byteAt(at)) {
            case 'g':
                cave.startWalk(first, second);
                break;
            case 't':
                cave.takeRope(first, second);
                break;
            case 'r':
                cave.startRig(first);
                break;
            case 'm':
                cave.sendFrom(first);
                break;
            case 'c':
                cave.startCarry(text.setAt(at + 1));
                break;
            default:
                cave.letPass(text.numberAt(at + 1));
        }
    }

    /** All that a saved state holds. Its can-methods take any numbers; a deed is done only behind its can-method. */
    private static final class Cave {
        final Passages passages = new Passages();
        final Ropes ropes = new Ropes();
        final Helper[] helpers = new Helper[MOST_HELPERS];
        int helperCount = 0;
        final Messages messages = new Messages();
        final Log log = new Log();
        int time = 0;
        int stretcher = INITIAL_COUNT;
        boolean stretcherCarried = false;
        int silenceFirst = 0;
        int silenceLast = 0;
        int minutesLate = 0;

        Cave() {
            for (int i = 0; i < MOST_HELPERS; i++) {
                helpers[i] = new Helper();
            }
        }

        void startAnew(int count) {
            passages.startAnew(count);
            ropes.count = 0;
            helperCount = 0;
            messages.count = 0;
            messages.arrived = 0;
            log.kept = 0;
            log.total = 0;
            time = 0;
            stretcher = count;
            stretcherCarried = false;
            silenceFirst = 0;
            silenceLast = 0;
            minutesLate = 0;
        }

        void copyFrom(Cave other) {
            passages.copyFrom(other.passages);
            ropes.copyFrom(other.ropes);
            for (int i = 0; i < MOST_HELPERS; i++) {
                helpers[i].copyFrom(other.helpers[i]);
            }
            helperCount = other.helperCount;
            messages.copyFrom(other.messages);
            log.copyFrom(other.log);
            time = other.time;
            stretcher = other.stretcher;
            stretcherCarried = other.stretcherCarried;
            silenceFirst = other.silenceFirst;
            silenceLast = other.silenceLast;
            minutesLate = other.minutesLate;
        }

        int addOne(int limit) {
            int number = helperCount;
            if (number >= MOST_HELPERS) {
                return NONE;
            }
            helpers[number].startAnew(limit);
            helperCount++;
            return number;
        }

        boolean isStanding(int number) {
            return number >= 0 && number < helperCount && helpers[number].deed == STANDING;
        }

        int walkersThrough(int passage) {
            int walkers = 0;
            for (int i = 0; i < helperCount; i++) {
                if (helpers[i].walksThrough(passage)) {
                    walkers++;
                }
            }
            return walkers;
        }

        int riggerOf(int passage) {
            for (int i = 0; i < helperCount; i++) {
                if (helpers[i].deed == RIGGING && helpers[i].station == passage) {
                    return i;
                }
            }
            return NONE;
        }

        boolean isInUse(int passage) {
            return passages.ropeOf(passage) != NONE || riggerOf(passage) != NONE || walkersThrough(passage) > 0;
        }

        boolean isInTime(Helper helper, int station, int minutes) {
            return helper.minutesBelow + minutes + passages.wayUp(station) <= helper.limit;
        }

        /** 0 if a helper can go to a station, otherwise the document's number of the reason. */
        int refusal(Helper helper, int station) {
            if (helper.deed != STANDING) {
                return 1;
            }
            boolean beside = station == helper.station - 1 || station == helper.station + 1;
            if (!beside || station < 0 || station > passages.count) {
                return 2;
            }
            boolean goesUp = station < helper.station;
            int passage = goesUp ? station : helper.station;
            if (!passages.isOpen(passage)) {
                return 3;
            }
            int minutes = passages.minutesOf(passage);
            int effort = goesUp && passages.isPitch(passage) ? 2 * minutes : minutes;
            if (helper.tiredness + effort > MOST_TIREDNESS) {
                return 4;
            }
            return goesUp || isInTime(helper, station, minutes) ? 0 : 5;
        }

        boolean canWalk(int number, int station) {
            return isStanding(number) && refusal(helpers[number], station) == 0;
        }

        int startWalk(int number, int station) {
            Helper helper = helpers[number];
            int minutes = passages.minutesOf(Math.min(helper.station, station));
            helper.walkTo(station, minutes);
            return minutes;
        }

        boolean canTake(int number, int rope) {
            return isStanding(number) && helpers[number].rope == NONE
                    && ropes.liesAt(rope, helpers[number].station);
        }

        void takeRope(int number, int rope) {
            helpers[number].rope = rope;
            ropes.put(rope, WITH_HELPER, number);
        }

        boolean canLay(int number) {
            return isStanding(number) && helpers[number].rope != NONE;
        }

        int layRope(int number) {
            Helper helper = helpers[number];
            int rope = helper.rope;
            ropes.put(rope, LYING, helper.station);
            helper.rope = NONE;
            return rope;
        }

        boolean canRig(int number) {
            if (!canLay(number)) {
                return false;
            }
            Helper helper = helpers[number];
            int passage = helper.station;
            return passages.isPitch(passage) && passages.ropeOf(passage) == NONE && riggerOf(passage) == NONE
                    && ropes.holds(helper.rope, passages.dropOf(passage))
                    && isInTime(helper, helper.station, RIG_MINUTES);
        }

        int startRig(int number) {
            Helper helper = helpers[number];
            helper.deed = RIGGING;
            helper.minutesToGo = RIG_MINUTES;
            return helper.station;
        }

        boolean canUnrig(int number) {
            if (!isStanding(number) || helpers[number].rope != NONE) {
                return false;
            }
            int passage = helpers[number].station;
            return passages.ropeOf(passage) != NONE && walkersThrough(passage) == 0;
        }

        int unrig(int number) {
            int passage = helpers[number].station;
            int rope = passages.ropeOf(passage);
            passages.fix(passage, NONE);
            takeRope(number, rope);
            return rope;
        }

        boolean isTeam(int set) {
            return set >= 0 && set < (1 << helperCount) && Integer.bitCount(set) >= FEWEST_CARRIERS;
        }

        boolean canCarry(int set) {
            return (fitCarriers() & set) == set;
        }

        int fitCarriers() {
            if (stretcherCarried || stretcher == 0 || !passages.isOpen(stretcher - 1)) {
                return 0;
            }
            int minutes = CARRY_SLOWNESS * passages.minutesOf(stretcher - 1);
            int set = 0;
            for (int i = 0; i < helperCount; i++) {
                Helper helper = helpers[i];
                if (helper.deed == STANDING && helper.station == stretcher
                        && helper.tiredness + 2 * minutes <= MOST_TIREDNESS
                        && isInTime(helper, stretcher - 1, minutes)) {
                    set |= 1 << i;
                }
            }
            return set;
        }

        int startCarry(int set) {
            int minutes = CARRY_SLOWNESS * passages.minutesOf(stretcher - 1);
            for (int i = 0; i < helperCount; i++) {
                if ((set >> i & 1) == 1) {
                    helpers[i].walkTo(stretcher - 1, minutes);
                    helpers[i].carrying = true;
                }
            }
            stretcherCarried = true;
            log.add(time, stretcher, set);
            return minutes;
        }

        boolean canSend(int number) {
            return isStanding(number) && (messages.count < MOST_MESSAGES || helpers[number].station == 0);
        }

        void sendFrom(int number) {
            int station = helpers[number].station;
            if (station == 0) {
                messages.arrived++;
            } else {
                messages.add(number, time, station);
            }
        }

        boolean canPass(int minutes) {
            return time + minutes <= LAST_TIME;
        }

        int letPass(int minutes) {
            int arrivedBefore = messages.arrived;
            for (int i = 0; i < minutes; i++) {
                for (int k = 0; k < helperCount; k++) {
                    letMinutePass(k);
                }
                if (time < silenceFirst || time >= silenceLast) {
                    messages.goUp();
                }
                time++;
            }
            return messages.arrived - arrivedBefore;
        }

        private void letMinutePass(int number) {
            Helper helper = helpers[number];
            boolean rests = helper.deed == STANDING && helper.station == 0;
            if (helper.deed == STANDING && helper.station > 0 && !isInTime(helper, helper.station, 1)
                    && refusal(helper, helper.station - 1) == 0) {
                startWalk(number, helper.station - 1);
            }
            if (helper.deed == WALKING) {
                walkOn(helper);
            } else if (helper.deed == RIGGING) {
                rigOn(helper);
            }
            if (rests && helper.tiredness > 0) {
                helper.tiredness--;
            }
            if (helper.countBelow()) {
                minutesLate++;
            }
        }

        private void walkOn(Helper helper) {
            boolean climbs = helper.goal < helper.station && passages.isPitch(helper.goal);
            helper.tiredness += helper.carrying || climbs ? 2 : 1;
            helper.minutesToGo--;
            if (helper.minutesToGo > 0) {
                return;
            }
            helper.arrive();
            if (helper.carrying) {
                helper.carrying = false;
                stretcher = helper.station;
                stretcherCarried = false;
            }
        }

        private void rigOn(Helper helper) {
            helper.minutesToGo--;
            if (helper.minutesToGo > 0) {
                return;
            }
            ropes.put(helper.rope, RIGGED, helper.station);
            passages.fix(helper.station, helper.rope);
            helper.rope = NONE;
            helper.deed = STANDING;
        }

        int wayUpOf(Helper helper) {
            if (helper.deed != STANDING || !passages.isOpenUp(helper.station)) {
                return NONE;
            }
            return passages.wayUp(helper.station);
        }

        int spareOf(Helper helper) {
            int way = wayUpOf(helper);
            if (way == NONE || helper.station == 0) {
                return NONE;
            }
            return Math.max(0, helper.limit - helper.minutesBelow - way);
        }

        int reachOf(Helper helper) {
            if (helper.deed != STANDING) {
                return NONE;
            }
            int stations = helper.station;
            if (stations == 0 || time + stations <= silenceFirst) {
                return stations;
            }
            int silentMinutes = Math.max(0, silenceLast - Math.max(time, silenceFirst));
            int minutes = stations + silentMinutes;
            return minutes > LONGEST_REACH ? NONE : minutes;
        }

        int sumOfTiredness() {
            int sum = 0;
            for (int i = 0; i < helperCount; i++) {
                sum += helpers[i].tiredness;
            }
            return sum;
        }

        private int countOfBelow() {
            int below = 0;
            for (int i = 0; i < helperCount; i++) {
                if (helpers[i].isBelow()) {
                    below++;
                }
            }
            return below;
        }

        int aboutPassage(int passage, int what) {
            switch (what) {
                case 0:
                    return passages.dropOf(passage);
                case 1:
                    return passages.minutesOf(passage);
                case 2:
                    return passages.ropeOf(passage);
                case 3:
                    return walkersThrough(passage);
                default:
                    return riggerOf(passage);
            }
        }

        int about(int what) {
            switch (what) {
                case 0:
                    return passages.count;
                case 1:
                    return ropes.count;
                case 2:
                    return helperCount;
                case 3:
                    return time;
                case 4:
                    return stretcher;
                case 5:
                    return stretcherCarried ? 1 : 0;
                case 6:
                    return countOfBelow();
                case 7:
                    return messages.count;
                case 8:
                    return messages.arrived;
                case 9:
                    return log.total;
                case 10:
                    return passages.countOfClosed();
                case 11:
                    return silenceFirst;
                case 12:
                    return silenceLast;
                default:
                    return minutesLate;
            }
        }

        /** The document's hash, from the values of the cave to the log, begun with h. */
        long hash(long h) {
            for (int what = 0; what <= 13; what++) {
                h = 31L * h + about(what);
            }
            for (int i = 0; i < passages.count; i++) {
                for (int what = 0; what <= 4; what++) {
                    h = 31L * h + aboutPassage(i, what);
                }
            }
            for (int i = 0; i < ropes.count; i++) {
                for (int what = 0; what <= 2; what++) {
                    h = 31L * h + ropes.about(i, what);
                }
            }
            for (int i = 0; i < helperCount; i++) {
                for (int what = 0; what <= 8; what++) {
                    h = 31L * h + helpers[i].about(what);
                }
            }
            for (int i = 0; i < messages.count; i++) {
                for (int what = 0; what <= 2; what++) {
                    h = 31L * h + messages.about(i, what);
                }
            }
            for (int i = 0; i < log.kept; i++) {
                for (int what = 0; what <= 2; what++) {
                    h = 31L * h + log.about(i, what);
                }
            }
            return h;
        }
    }

    /** The passages; what is asked about one that is not there has a harmless answer. */
    private static final class Passages {
        private final int[] drops = INITIAL_DROPS.clone();
        private final int[] minutes = INITIAL_MINUTES.clone();
        private final int[] ropes = new int[MOST_PASSAGES];
        int count = INITIAL_COUNT;

        Passages() {
            for (int i = 0; i < MOST_PASSAGES; i++) {
                ropes[i] = NONE;
            }
        }

        void startAnew(int newCount) {
            for (int i = 0; i < MOST_PASSAGES; i++) {
                drops[i] = INITIAL_DROPS[i];
                minutes[i] = INITIAL_MINUTES[i];
                ropes[i] = NONE;
            }
            count = newCount;
        }

        void copyFrom(Passages other) {
            for (int i = 0; i < MOST_PASSAGES; i++) {
                drops[i] = other.drops[i];
                minutes[i] = other.minutes[i];
                ropes[i] = other.ropes[i];
            }
            count = other.count;
        }

        private boolean has(int passage) {
            return passage >= 0 && passage < count;
        }

        int dropOf(int passage) {
            return has(passage) ? drops[passage] : 0;
        }

        int minutesOf(int passage) {
            return has(passage) ? minutes[passage] : 0;
        }

        int ropeOf(int passage) {
            return has(passage) ? ropes[passage] : NONE;
        }

        boolean isPitch(int passage) {
            return has(passage) && drops[passage] > 0;
        }

        boolean isOpen(int passage) {
            return !has(passage) || drops[passage] == 0 || ropes[passage] != NONE;
        }

        void change(int passage, int drop, int newMinutes) {
            if (has(passage)) {
                drops[passage] = drop;
                minutes[passage] = newMinutes;
            }
        }

        void fix(int passage, int rope) {
            if (has(passage)) {
                ropes[passage] = rope;
            }
        }

        int wayUp(int station) {
            int sum = 0;
            for (int i = 0; i < station && i < count; i++) {
                sum += minutes[i];
            }
            return sum;
        }

        boolean isOpenUp(int station) {
            for (int i = 0; i < station && i < count; i++) {
                if (!isOpen(i)) {
                    return false;
                }
            }
            return true;
        }

        int countOfClosed() {
            int closed = 0;
            for (int i = 0; i < count; i++) {
                if (!isOpen(i)) {
                    closed++;
                }
            }
            return closed;
        }
    }

    private static final class Ropes {
        private final int[] lengths = new int[MOST_ROPES];
        private final int[] states = new int[MOST_ROPES];
        private final int[] places = new int[MOST_ROPES];
        int count = 0;

        void copyFrom(Ropes other) {
            for (int i = 0; i < MOST_ROPES; i++) {
                lengths[i] = other.lengths[i];
                states[i] = other.states[i];
                places[i] = other.places[i];
            }
            count = other.count;
        }

        int addOne(int length) {
            int rope = count;
            if (rope >= MOST_ROPES) {
                return NONE;
            }
            lengths[rope] = length;
            count++;
            put(rope, LYING, 0);
            return rope;
        }

        private boolean has(int rope) {
            return rope >= 0 && rope < count;
        }

        void put(int rope, int state, int place) {
            if (has(rope)) {
                states[rope] = state;
                places[rope] = place;
            }
        }

        int lengthOf(int rope) {
            return has(rope) ? lengths[rope] : 0;
        }

        boolean liesAt(int rope, int station) {
            return has(rope) && states[rope] == LYING && places[rope] == station;
        }

        boolean holds(int rope, int drop) {
            return has(rope) && lengths[rope] >= drop + SPARE_ROPE;
        }

        int shortestFree(int drop) {
            int best = NONE;
            for (int i = 0; i < count; i++) {
                boolean shorter = best == NONE || lengths[i] < lengthOf(best);
                if (shorter && states[i] != RIGGED && holds(i, drop)) {
                    best = i;
                }
            }
            return best;
        }

        int about(int rope, int what) {
            if (!has(rope)) {
                return NONE;
            }
            switch (what) {
                case 0:
                    return lengths[rope];
                case 1:
                    return states[rope];
                default:
                    return places[rope];
            }
        }
    }

    private static final class Helper {
        int limit = 0;
        int station = 0;
        int deed = STANDING;
        int goal = NONE;
        int minutesToGo = 0;
        int rope = NONE;
        int tiredness = 0;
        int minutesBelow = 0;
        boolean carrying = false;

        void startAnew(int newLimit) {
            limit = newLimit;
            station = 0;
            deed = STANDING;
            goal = NONE;
            minutesToGo = 0;
            rope = NONE;
            tiredness = 0;
            minutesBelow = 0;
            carrying = false;
        }

        void copyFrom(Helper other) {
            limit = other.limit;
            station = other.station;
            deed = other.deed;
            goal = other.goal;
            minutesToGo = other.minutesToGo;
            rope = other.rope;
            tiredness = other.tiredness;
            minutesBelow = other.minutesBelow;
            carrying = other.carrying;
        }

        void walkTo(int newGoal, int minutes) {
            deed = WALKING;
            goal = newGoal;
            minutesToGo = minutes;
        }

        void arrive() {
            station = goal;
            goal = NONE;
            deed = STANDING;
        }

        boolean walksThrough(int passage) {
            return deed == WALKING && Math.min(station, goal) == passage;
        }

        boolean isBelow() {
            return deed == WALKING || station != 0;
        }

        /** Counts a minute that has passed, and tells whether it was one too late. */
        boolean countBelow() {
            minutesBelow = isBelow() ? minutesBelow + 1 : 0;
            return minutesBelow > limit;
        }

        int about(int what) {
            switch (what) {
                case 0:
                    return limit;
                case 1:
                    return station;
                case 2:
                    return deed;
                case 3:
                    return goal;
                case 4:
                    return minutesToGo;
                case 5:
                    return rope;
                case 6:
                    return tiredness;
                case 7:
                    return minutesBelow;
                default:
                    return carrying ? 1 : 0;
            }
        }
    }

    /** The messages on their way, the one that was sent first ahead. */
    private static final class Messages {
        private final int[] senders = new int[MOST_MESSAGES];
        private final int[] times = new int[MOST_MESSAGES];
        private final int[] stations = new int[MOST_MESSAGES];
        int count = 0;
        int arrived = 0;

        void copyFrom(Messages other) {
            for (int i = 0; i < MOST_MESSAGES; i++) {
                senders[i] = other.senders[i];
                times[i] = other.times[i];
                stations[i] = other.stations[i];
            }
            count = other.count;
            arrived = other.arrived;
        }

        void add(int sender, int time, int station) {
            if (count < MOST_MESSAGES) {
                set(count, sender, time, station);
                count++;
            }
        }

        private void set(int index, int sender, int time, int station) {
            senders[index] = sender;
            times[index] = time;
            stations[index] = station;
        }

        void goUp() {
            int kept = 0;
            for (int i = 0; i < count; i++) {
                int station = stations[i] - 1;
                if (station > 0) {
                    set(kept, senders[i], times[i], station);
                    kept++;
                }
            }
            arrived += count - kept;
            count = kept;
        }

        int about(int index, int what) {
            if (index < 0 || index >= count) {
                return NONE;
            }
            switch (what) {
                case 0:
                    return senders[index];
                case 1:
                    return times[index];
                default:
                    return stations[index];
            }
        }
    }

    /** The carries that are kept, the latest one ahead, and how many there were. */
    private static final class Log {
        private final int[] times = new int[MOST_LOGGED];
        private final int[] stations = new int[MOST_LOGGED];
        private final int[] sets = new int[MOST_LOGGED];
        int kept = 0;
        int total = 0;

        void copyFrom(Log other) {
            for (int i = 0; i < MOST_LOGGED; i++) {
                times[i] = other.times[i];
                stations[i] = other.stations[i];
                sets[i] = other.sets[i];
            }
            kept = other.kept;
            total = other.total;
        }

        void add(int time, int station, int set) {
            for (int i = MOST_LOGGED - 1; i > 0; i--) {
                times[i] = times[i - 1];
                stations[i] = stations[i - 1];
                sets[i] = sets[i - 1];
            }
            times[0] = time;
            stations[0] = station;
            sets[0] = set;
            kept = Math.min(kept + 1, MOST_LOGGED);
            total++;
        }

        int about(int index, int what) {
            if (index < 0 || index >= kept) {
                return NONE;
            }
            switch (what) {
                case 0:
                    return times[index];
                case 1:
                    return stations[index];
                default:
                    return sets[index];
            }
        }
    }

    /** The text, and the syntax of its orders; behind its end every byte is NONE, which can stand nowhere. */
    private static final class Text {
        private final int[] bytes = new int[MOST_BYTES];
        int length = 0;

        void add(int value) {
            if (length < MOST_BYTES) {
                bytes[length] = value;
                length++;
            }
        }

        int byteAt(int at) {
            return at >= 0 && at < length ? bytes[at] : NONE;
        }

        int digitAt(int at) {
            int value = byteAt(at);
            return value >= '0' && value <= '9' ? value - '0' : NONE;
        }

        int firstWrong() {
            int at = 0;
            for (int i = 0; i < MOST_BYTES && at < length; i++) {
                at = behindOrder(at);
                if (at < 0) {
                    return wrongAt(at);
                }
            }
            return NONE;
        }

        /** -1 - at, which is below 0 for each position; twice is the position again. */
        private static int wrongAt(int at) {
            return -1 - at;
        }

        /** Where the next order begins, or wrongAt() of the syntax error position. */
        int behindOrder(int at) {
            switch (byteAt(at)) {
                case 'g':
                case 't':
                    return behindTwoDigits(at + 1);
                case 'r':
                case 'm':
                    return isUpTo(5, at + 1) ? behindEnd(at + 2) : wrongAt(at + 1);
                case 'c':
                    return behindSet(at + 1);
                case 'p':
                    return behindNumber(at + 1);
                default:
                    return wrongAt(at);
            }
        }

        private int behindEnd(int at) {
            return byteAt(at) == ';' ? at + 1 : wrongAt(at);
        }

        private boolean isUpTo(int most, int at) {
            int digit = digitAt(at);
            return digit != NONE && digit <= most;
        }

        private int behindTwoDigits(int at) {
            if (!isUpTo(5, at)) {
                return wrongAt(at);
            }
            return isUpTo(7, at + 1) ? behindEnd(at + 2) : wrongAt(at + 1);
        }

        private int behindSet(int at) {
            int digits = digitsOfSet(at);
            return digits < FEWEST_CARRIERS ? wrongAt(at + digits) : behindEnd(at + digits);
        }

        private int digitsOfSet(int at) {
            int before = NONE;
            for (int digits = 0; digits < MOST_HELPERS; digits++) {
                int digit = digitAt(at + digits);
                if (digit <= before || digit >= MOST_HELPERS) {
                    return digits;
                }
                before = digit;
            }
            return MOST_HELPERS;
        }

        int setAt(int at) {
            int set = 0;
            int digits = digitsOfSet(at);
            for (int i = 0; i < digits; i++) {
                set |= 1 << digitAt(at + i);
            }
            return set;
        }

        private int behindNumber(int at) {
            int digits = digitsOfNumber(at);
            if (digits == 0 || digitAt(at + digits) != NONE) {
                return wrongAt(at + digits);
            }
            int number = numberOf(at, digits);
            return number < 1 || number > LONGEST_PASS ? wrongAt(at) : behindEnd(at + digits);
        }

        private int digitsOfNumber(int at) {
            for (int digits = 0; digits < 3; digits++) {
                if (digitAt(at + digits) == NONE) {
                    return digits;
                }
            }
            return 3;
        }

        int numberAt(int at) {
            return numberOf(at, digitsOfNumber(at));
        }

        private int numberOf(int at, int digits) {
            int number = 0;
            for (int i = 0; i < digits; i++) {
                number = 10 * number + digitAt(at + i);
            }
            return number;
        }
    }
}
