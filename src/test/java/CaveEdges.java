/** Edges of the terms "Cave", "Ropes", "Helpers" and "Stretcher", and of promises 1 to 6. */
final class CaveEdges {
    private static final int NONE = CaveRelay.NONE;
    private static final int LEAST = Integer.MIN_VALUE;
    private static final int MOST = Integer.MAX_VALUE;

    private CaveEdges() {
    }

    static void all(Edges e) {
        terms(e);
        termsOfHelpers(e);
        promises1And2(e);
        promise3(e);
        promises4To6(e);
    }

    private static void terms(Edges e) {
        e.plain("Times are in minutes.");
        e.term("There are 1 to 7 passages, numbered from 0, initially 4", CaveEdges::passageNumbers);
        e.term("passage k leads from station k down to station k + 1", CaveEdges::stationsOfPassages);
        e.term("Station 0 is the surface.", CaveEdges::surface);
        e.term("A passage has a drop in meters, 0 to 60, and the minutes, 1 to 30", CaveEdges::dropsAndMinutes);
        e.term("that it takes in each direction", CaveEdges::minutesInEachDirection);
        e.term("With a drop above 0 it is a pitch, otherwise a crawl.", CaveEdges::dropOfOne);
        e.term("The initial passages have the drops 0, 20, 0, 35 and the minutes 5, 8, 6, 10",
                CaveEdges::initialPassages);
        e.term("a passage that is made by begin() beyond these has the drop 0 and the minutes 5",
                CaveEdges::passagesBeyond);
        e.term("A pitch can be passed only if it is rigged, a crawl always.", CaveEdges::pitchOnlyIfRigged);
        e.term("There are at most 8 ropes, numbered from 0", CaveEdges::eightRopes);
        e.term("each with a length of 10 to 80 meters", CaveEdges::lengths);
        e.term("A rope lies at a station, is with a helper, or is rigged at a passage.", CaveEdges::placesOfRopes);
        e.term("It holds a pitch if its length is at least the drop plus 3.", CaveEdges::dropPlusThree);
        e.term("It lies at a station, at first at the lowest one", CaveEdges::stretcherAtFirst);
        e.term("or is carried through a passage", CaveEdges::stretcherCarried);
    }

    private static void termsOfHelpers(Edges e) {
        e.term("There are at most 6 helpers, numbered from 0.", CaveEdges::sixHelpers);
        e.term("A helper has a limit, 30 to 600", CaveEdges::limits);
        e.term("a tiredness, 0 to 100", CaveEdges::tirednessUpTo100);
        e.term("and perhaps a rope", CaveEdges::perhapsARope);
        e.term("each stands at a station, walks through a passage, or rigs one", CaveEdges::whatHelpersDo);
        e.term("A helper is below if walking, or at another station than 0.", CaveEdges::below);
        e.term("are not greater than the limit", CaveEdges::inTimeUpToTheLimit);
        e.term("(0 for one who is not below)", CaveEdges::notBelowCountsNothing);
        e.term("plus the minutes of all passages from this station up to the surface", CaveEdges::allPassagesUp);
    }

    private static void promises1And2(Edges e) {
        e.promise(1, "Creates a cave of 4 passages without ropes and helpers, at the time 0.", CaveEdges::newObject);
        e.promise(2, "without ropes, helpers, messages and silence, at the time 0", CaveEdges::beginHasNothing);
        e.promise(2, "with the initial passages", CaveEdges::beginMakesPassagesAnew);
        e.promise(2, "an empty log and nothing counted", CaveEdges::beginCountsNothing);
        e.promise(2, "the stretcher lies at the lowest station", CaveEdges::beginWhileCarried);
        e.promise(2, "Undoable.", CaveEdges::beginUndone);
        e.promise(2, "`passages`: 1 to 7", CaveEdges::beginWithOneAndSeven);
        e.promise(2, "Returns the time before.", CaveEdges::beginReturns);
        e.promise(2, "if passages is out of range", CaveEdges::beginOutOfRange);
    }

    private static void promise3(Edges e) {
        e.promise(3, "Sets a passage. Undoable.", CaveEdges::setPassageUndone);
        e.promise(3, "`passage`: number of a passage", CaveEdges::setPassageFirstAndLast);
        e.promise(3, "`drop`: 0 to 60", CaveEdges::setPassageDrops);
        e.promise(3, "`minutes`: 1 to 30", CaveEdges::setPassageMinutes);
        e.promise(3, "Returns the previous drop.", CaveEdges::setPassageReturns);
        e.promise(3, "if there is no such passage", CaveEdges::setPassageNoSuch);
        e.promise(3, "if drop or minutes is out of range", CaveEdges::setPassageOutOfRange);
        e.promise(3, "if the passage is rigged", CaveEdges::setPassageRigged);
        e.promise(3, "or a helper is rigging it", CaveEdges::setPassageRigging);
        e.promise(3, "or a helper walks through it", CaveEdges::setPassageWalkedThrough);
    }

    private static void promises4To6(Edges e) {
        e.promise(4, "which lies at station 0. Undoable.", CaveEdges::addRopeUndone);
        e.promise(4, "`length`: 10 to 80", CaveEdges::addRopeShortestAndLongest);
        e.promise(4, "Returns the number of the rope.", CaveEdges::addRopeReturns);
        e.promise(4, "if length is out of range", CaveEdges::addRopeOutOfRange);
        e.promise(4, "if there are 8 ropes", CaveEdges::ninthRope);
        e.promise(5, "who stands at station 0, without tiredness. Undoable.", CaveEdges::addHelperUndone);
        e.promise(5, "`limit`: 30 to 600", CaveEdges::addHelperShortestAndLongest);
        e.promise(5, "Returns the number of the helper.", CaveEdges::addHelperReturns);
        e.promise(5, "if limit is out of range", CaveEdges::addHelperOutOfRange);
        e.promise(5, "if there are 6 helpers", CaveEdges::seventhHelper);
        e.promise(6, "Sets the silence. Undoable.", CaveEdges::setSilenceUndone);
        e.promise(6, "`first`: 0 to 100000", CaveEdges::setSilenceFirst);
        e.promise(6, "`last`: first to 100000", CaveEdges::setSilenceLast);
        e.promise(6, "with last equal to first there is none", CaveEdges::setSilenceOfNoMinute);
        e.promise(6, "(value() tells both as they are set)", CaveEdges::setSilenceTold);
        e.promise(6, "Returns the last minute of the silence before (without it).", CaveEdges::setSilenceReturns);
        e.promise(6, "if an argument is out of range", CaveEdges::setSilenceOutOfRange);
    }

    // ---- the cave

    private static void passageNumbers(Checks check) {
        check.same("initially", 4, new CaveRelay().value(0));
        for (int count = 1; count <= 7; count++) {
            int n = count;
            CaveRelay x = new CaveRelay();
            x.begin(n);
            check.same("passages", n, x.value(0));
            check.hold("the first and the last of " + n, x.passage(0, 1) > 0 && x.passage(n - 1, 1) > 0);
            check.noIndex("passage " + n + " of " + n, () -> Caves.begun(n), y -> y.passage(n, 0));
            check.noIndex("passage -1 of " + n, () -> Caves.begun(n), y -> y.passage(-1, 0));
        }
        check.badArgument("0 passages", CaveRelay::new, x -> x.begin(0));
        check.badArgument("8 passages", CaveRelay::new, x -> x.begin(8));
    }

    private static void stationsOfPassages(Checks check) {
        CaveRelay x = Caves.crawls(7, 1);
        x.addHelper(600);
        for (int k = 0; k < 7; k++) {
            x.go(0, k + 1);
            for (int p = 0; p < 7; p++) {
                check.same("walkers in passage " + p + " down to " + (k + 1), p == k ? 1 : 0, x.passage(p, 3));
            }
            x.pass(1);
            check.same("station", k + 1, x.helper(0, 1));
        }
        check.same("station 8 is not there", 2, x.why(0, 8));
        for (int k = 6; k >= 0; k--) {
            x.go(0, k);
            check.same("walkers in passage " + k + " up to " + k, 1, x.passage(k, 3));
            x.pass(1);
            check.same("station", k, x.helper(0, 1));
        }
    }

    private static void surface(Checks check) {
        CaveRelay x = new CaveRelay();
        x.addHelper(100);
        check.same("nothing is above it", 2, x.why(0, -1));
        check.same("nobody there is below", 0, x.value(6));
        check.same("nothing to climb", 0, x.minutesUp(0));
        check.same("a message from there is there", 0, x.reach(0));
    }

    private static void dropsAndMinutes(Checks check) {
        CaveRelay x = new CaveRelay();
        x.setPassage(2, 60, 30);
        check.passage("most", x, 2, 60, 30);
        x.setPassage(2, 0, 1);
        check.passage("least", x, 2, 0, 1);
        check.badArgument("drop 61", CaveRelay::new, y -> y.setPassage(2, 61, 30));
        check.badArgument("drop -1", CaveRelay::new, y -> y.setPassage(2, -1, 30));
        check.badArgument("minutes 31", CaveRelay::new, y -> y.setPassage(2, 60, 31));
        check.badArgument("minutes 0", CaveRelay::new, y -> y.setPassage(2, 60, 0));
    }

    private static void minutesInEachDirection(Checks check) {
        for (int minutes : new int[] {1, 30}) {
            CaveRelay x = Caves.crawls(1, minutes);
            x.addHelper(600);
            check.same("down", minutes, x.go(0, 1));
            x.pass(minutes);
            check.helper("down", x, 0, 600, 1, 0);
            check.same("up", minutes, x.go(0, 0));
            if (minutes > 1) {
                x.pass(minutes - 1);
                check.helper("nearly up", x, 0, 600, 1, 1, 0, 1);
            }
            x.pass(1);
            check.helper("up", x, 0, 600, 0, 0);
        }
    }

    private static void dropOfOne(Checks check) {
        CaveRelay x = Caves.crawls(1, 3);
        x.addHelper(100);
        check.same("no pitch", 0, x.value(10));
        check.same("a crawl", 0, x.why(0, 1));
        x.setPassage(0, 1, 3);
        check.same("a pitch", 1, x.value(10));
        check.same("a pitch that is not rigged", 3, x.why(0, 1));
    }

    private static void initialPassages(Checks check) {
        int[] drops = {0, 20, 0, 35};
        int[] minutes = {5, 8, 6, 10};
        for (int count = 1; count <= 7; count++) {
            CaveRelay x = Caves.begun(count);
            for (int p = 0; p < Math.min(count, 4); p++) {
                check.passage(count + " passages", x, p, drops[p], minutes[p], NONE, 0, NONE);
                check.passage("new", new CaveRelay(), p, drops[p], minutes[p], NONE, 0, NONE);
            }
        }
    }

    private static void passagesBeyond(Checks check) {
        for (int count = 5; count <= 7; count++) {
            CaveRelay x = Caves.begun(count);
            check.same("passage 3 is none of them", 35, x.passage(3, 0));
            for (int p = 4; p < count; p++) {
                check.passage(count + " passages", x, p, 0, 5, NONE, 0, NONE);
                x.setPassage(p, 60, 30);
            }
            x.begin(count);
            for (int p = 4; p < count; p++) {
                check.passage("made again", x, p, 0, 5, NONE, 0, NONE);
            }
        }
    }

    private static void pitchOnlyIfRigged(Checks check) {
        CaveRelay x = Caves.riggedPitch(60, 2, 2, 100);
        check.same("down a rigged pitch", 0, x.why(0, 1));
        x.go(0, 1);
        x.pass(2);
        check.same("up a rigged pitch", 0, x.why(0, 0));
        x.takeOff(1);
        check.same("up one that is not rigged", 3, x.why(0, 0));
        check.same("down one that is not rigged", 3, x.why(1, 1));
        x.rig(1);
        x.pass(9);
        check.same("while it is being rigged", 3, x.why(0, 0));
        x.pass(1);
        check.same("rigged again", 0, x.why(0, 0));
        CaveRelay y = Caves.crawls(1, 2);
        y.addHelper(100);
        check.same("down a crawl", 0, y.why(0, 1));
        Caves.walkDown(y, 1, 1);
        check.same("up a crawl", 0, y.why(0, 0));
    }

    // ---- ropes

    private static void eightRopes(Checks check) {
        for (int count = 0; count <= 8; count++) {
            int n = count;
            check.same("ropes", n, Caves.ropes(n).value(1));
            check.noIndex("rope " + n + " of " + n, () -> Caves.ropes(n), x -> x.rope(n, 0));
            check.noIndex("rope -1 of " + n, () -> Caves.ropes(n), x -> x.rope(-1, 0));
        }
        check.same("the last of 8", 27, Caves.ropes(8).rope(7, 0));
        check.notNow("a ninth", () -> Caves.ropes(8), x -> x.addRope(10));
    }

    private static void lengths(Checks check) {
        CaveRelay x = new CaveRelay();
        x.addRope(10);
        x.addRope(80);
        check.same("shortest", 10, x.rope(0, 0));
        check.same("longest", 80, x.rope(1, 0));
        check.badArgument("9 meters", CaveRelay::new, y -> y.addRope(9));
        check.badArgument("81 meters", CaveRelay::new, y -> y.addRope(81));
    }

    private static void placesOfRopes(Checks check) {
        CaveRelay x = Caves.begun(2);
        x.setPassage(1, 0, 8);
        x.addRope(80);
        x.addHelper(100);
        check.rope("lies at the surface", x, 0, 80, 0, 0);
        x.take(0, 0);
        check.rope("with a helper", x, 0, 80, 1, 0);
        Caves.walkDown(x, 1, 1);
        x.setPassage(1, 9, 8);
        x.rig(0);
        check.rope("with the one who rigs", x, 0, 80, 1, 0);
        x.pass(10);
        check.rope("rigged", x, 0, 80, 2, 1);
        x.takeOff(0);
        x.setPassage(1, 0, 8);
        x.go(0, 2);
        check.rope("with the one who walks", x, 0, 80, 1, 0);
        x.pass(8);
        x.lay(0);
        check.rope("lies at the lowest station", x, 0, 80, 0, 2);
    }

    private static boolean holds(int length, int drop) {
        CaveRelay x = Caves.begun(1);
        x.setPassage(0, drop, 1);
        x.addRope(length);
        x.addHelper(100);
        x.take(0, 0);
        boolean best = x.bestRope(0) == 0;
        try {
            x.rig(0);
        } catch (IllegalStateException e) {
            return best;
        }
        // the two answers differ if one of them is wrong, then neither is told
        return best || drop == 0;
    }

    private static void dropPlusThree(Checks check) {
        check.hold("10 for 1", holds(10, 1));
        check.hold("10 for 7", holds(10, 7));
        check.hold("not 10 for 8", !holds(10, 8));
        check.hold("23 for 20", holds(23, 20));
        check.hold("not 22 for 20", !holds(22, 20));
        check.hold("63 for 60", holds(63, 60));
        check.hold("not 62 for 60", !holds(62, 60));
        check.hold("80 for 60", holds(80, 60));
    }

    // ---- helpers

    private static void sixHelpers(Checks check) {
        for (int count = 0; count <= 6; count++) {
            int n = count;
            check.same("helpers", n, Caves.helpers(n).value(2));
            check.noIndex("helper " + n + " of " + n, () -> Caves.helpers(n), x -> x.helper(n, 0));
            check.noIndex("helper -1 of " + n, () -> Caves.helpers(n), x -> x.helper(-1, 0));
        }
        check.same("the last of 6", 105, Caves.helpers(6).helper(5, 0));
        check.notNow("a seventh", () -> Caves.helpers(6), x -> x.addHelper(30));
    }

    private static void limits(Checks check) {
        CaveRelay x = new CaveRelay();
        x.addHelper(30);
        x.addHelper(600);
        check.same("least", 30, x.helper(0, 0));
        check.same("most", 600, x.helper(1, 0));
        check.badArgument("29 minutes", CaveRelay::new, y -> y.addHelper(29));
        check.badArgument("601 minutes", CaveRelay::new, y -> y.addHelper(601));
    }

    private static void tirednessUpTo100(Checks check) {
        CaveRelay x = Caves.crawls(1, 25);
        x.addHelper(600);
        check.same("at first", 0, x.helper(0, 6));
        x.pass(600);
        check.same("rested without need", 0, x.helper(0, 6));
        for (int station : new int[] {1, 0, 1, 0}) {
            x.go(0, station);
            x.pass(25);
        }
        check.same("at most", 100, x.helper(0, 6));
        check.same("more is refused", 4, x.why(0, 1));
        x.setPassage(0, 0, 1);
        check.same("by 1, too", 4, x.why(0, 1));
        x.pass(1);
        check.same("99 and 1", 0, x.why(0, 1));
        x.pass(99);
        check.same("rested", 0, x.helper(0, 6));
    }

    private static void perhapsARope(Checks check) {
        CaveRelay x = new CaveRelay();
        x.addRope(10);
        x.addHelper(30);
        check.same("none", NONE, x.helper(0, 5));
        x.take(0, 0);
        check.same("rope 0", 0, x.helper(0, 5));
    }

    private static void whatHelpersDo(Checks check) {
        CaveRelay x = new CaveRelay();
        x.addRope(80);
        x.addHelper(100);
        x.take(0, 0);
        check.helper("stands", x, 0, 100, 0, 0, NONE, 0);
        x.go(0, 1);
        check.helper("walks", x, 0, 100, 0, 1, 1, 5);
        x.pass(5);
        check.helper("stands again", x, 0, 100, 1, 0, NONE, 0);
        x.rig(0);
        check.helper("rigs", x, 0, 100, 1, 2, NONE, 10);
        x.pass(10);
        check.helper("stands again", x, 0, 100, 1, 0, NONE, 0);
    }

    private static void below(Checks check) {
        CaveRelay x = Caves.crawls(2, 3);
        x.addRope(80);
        x.addHelper(100);
        check.same("at the surface", 0, x.value(6));
        x.go(0, 1);
        check.same("walking from the surface, at once", 1, x.value(6));
        x.pass(3);
        check.same("at station 1", 1, x.value(6));
        x.go(0, 0);
        x.pass(2);
        check.same("walking up to the surface", 1, x.value(6));
        check.same("5 minutes", 5, x.helper(0, 7));
        x.pass(1);
        check.same("back at the surface", 0, x.value(6));
        check.same("none", 0, x.helper(0, 7));
        x.setPassage(0, 1, 3);
        x.take(0, 0);
        x.rig(0);
        x.pass(5);
        check.same("rigging at the surface", 0, x.value(6));
        check.same("none", 0, x.helper(0, 7));
    }

    /** Five minutes below, ten of a way down and fifteen up: thirty in all. */
    private static void inTimeUpToTheLimit(Checks check) {
        CaveRelay x = Caves.crawls(2, 5);
        x.setPassage(1, 0, 10);
        x.addHelper(30);
        x.addHelper(31);
        Caves.walkDown(x, 2, 1);
        check.same("30 of 30", 0, x.why(0, 2));
        x.pass(1);
        check.same("31 of 30", 5, x.why(0, 2));
        check.same("31 of 31", 0, x.why(1, 2));
        x.pass(1);
        check.same("32 of 31", 5, x.why(1, 2));
    }

    private static void notBelowCountsNothing(Checks check) {
        CaveRelay x = Caves.crawls(1, 15);
        x.addHelper(30);
        Caves.walkDown(x, 1, 1);
        x.go(0, 0);
        x.pass(15);
        check.same("back at the surface", 0, x.why(0, 1));
        x.setPassage(0, 0, 16);
        check.same("32 of 30", 5, x.why(0, 1));
        x.pass(600);
        x.setPassage(0, 0, 15);
        check.same("long at the surface", 0, x.why(0, 1));
    }

    private static void allPassagesUp(Checks check) {
        CaveRelay x = Caves.crawls(7, 1);
        x.addHelper(30);
        Caves.walkDown(x, 1, 6);
        // 6 minutes below, 1 down, and 7 up if no passage is longer
        for (int p = 0; p < 7; p++) {
            int more = p == 6 ? 8 : 16;
            x.setPassage(p, 0, 1 + more);
            check.same("30 of 30, passage " + p, 0, x.why(0, 7));
            x.setPassage(p, 0, 2 + more);
            check.same("31 of 30, passage " + p, 5, x.why(0, 7));
            x.setPassage(p, 0, 1);
        }
    }

    // ---- the stretcher

    private static void stretcherAtFirst(Checks check) {
        check.same("new", 4, new CaveRelay().value(4));
        for (int count = 1; count <= 7; count++) {
            check.same("begin(" + count + ")", count, Caves.begun(count).value(4));
            check.same("lies", 0, Caves.begun(count).value(5));
        }
    }

    private static void stretcherCarried(Checks check) {
        CaveRelay x = Caves.atStretcher(7, 1, 3);
        for (int station = 7; station > 0; station--) {
            check.same("lies at", station, x.value(4));
            check.same("lies", 0, x.value(5));
            x.carry(7);
            check.same("is carried", 1, x.value(5));
            x.pass(2);
            check.same("is carried from", station, x.value(4));
            check.same("is carried", 1, x.value(5));
            x.pass(1);
        }
        check.same("lies at the surface", 0, x.value(4));
        check.same("lies", 0, x.value(5));
    }

    // ---- promises 1 and 2

    private static void newObject(Checks check) {
        CaveRelay x = new CaveRelay();
        check.values("new", x, 4, 0, 0, 0, 4, 0, 0, 0, 0, 0, 2, 0, 0, 0);
        check.noIndex("no rope", CaveRelay::new, y -> y.rope(0, 0));
        check.noIndex("no helper", CaveRelay::new, y -> y.helper(0, 0));
        check.noIndex("no message", CaveRelay::new, y -> y.message(0, 0));
        check.noIndex("no carry", CaveRelay::new, y -> y.carried(0, 0));
        check.noIndex("no passage 4", CaveRelay::new, y -> y.passage(4, 0));
        check.refusedOnce("no saved state", CaveRelay::new, IllegalStateException.class, CaveRelay::undo);
        check.same("no text", 0, x.clearText());
    }

    private static void beginHasNothing(Checks check) {
        CaveRelay x = Caves.busy();
        check.hold("there was something", x.value(1) > 0 && x.value(2) > 0 && x.value(3) > 0 && x.value(7) > 0
                && x.value(12) > 0);
        x.begin(2);
        check.values("begun", x, 2, 0, 0, 0, 2, 0, 0, 0, 0, 0, 1, 0, 0, 0);
        check.noIndex("no rope", Caves::busyBegun, y -> y.rope(0, 0));
        check.noIndex("no helper", Caves::busyBegun, y -> y.helper(0, 0));
        check.noIndex("no message", Caves::busyBegun, y -> y.message(0, 0));
        for (int h = 0; h < 6; h++) {
            x.addHelper(100 + h);
            check.helper("a helper of the new exercise", x, h, 100 + h, 0, 0, NONE, 0, NONE, 0, 0, 0);
        }
        for (int r = 0; r < 8; r++) {
            x.addRope(50 + r);
            check.rope("a rope of the new exercise", x, r, 50 + r, 0, 0);
        }
        Caves.walkDown(x, 1, 1);
        x.send(0);
        check.message("the only message", x, 0, 0, 5, 1);
        check.same("no silence", 1, x.pass(1));
    }

    private static void beginMakesPassagesAnew(Checks check) {
        CaveRelay x = Caves.riggedPitch(20, 3, 1, 100);
        x.begin(7);
        check.passage("not a pitch, not rigged", x, 0, 0, 5, NONE, 0, NONE);
        x.begin(1);
        x.setPassage(0, 30, 4);
        x.addRope(80);
        x.addHelper(100);
        x.take(0, 0);
        x.rig(0);
        x.begin(4);
        check.passage("nobody rigs it", x, 0, 0, 5, NONE, 0, NONE);
        check.passage("a pitch", x, 1, 20, 8, NONE, 0, NONE);
        x.addHelper(100);
        x.go(0, 1);
        x.begin(4);
        x.addHelper(100);
        check.passage("nobody walks", x, 0, 0, 5, NONE, 0, NONE);
    }

    private static void beginCountsNothing(Checks check) {
        CaveRelay x = Caves.busy();
        check.hold("something was counted", x.value(8) > 0 && x.value(9) > 0 && x.value(13) > 0);
        x.begin(7);
        check.same("messages that came", 0, x.value(8));
        check.same("carries", 0, x.value(9));
        check.same("minutes too late", 0, x.value(13));
        check.noIndex("an empty log", Caves::busyBegun, y -> y.carried(0, 0));
    }

    private static void beginWhileCarried(Checks check) {
        for (int count = 1; count <= 7; count++) {
            CaveRelay x = Caves.atStretcher(2, 1, 3);
            x.carry(7);
            x.begin(count);
            check.same("at the lowest station", count, x.value(4));
            check.same("not carried", 0, x.value(5));
        }
    }

    private static void beginUndone(Checks check) {
        Undoing.once(check, "begin", Caves::busy, x -> x.begin(7));
        Undoing.once(check, "begin that changes nothing", CaveRelay::new, x -> x.begin(4));
    }

    private static void beginWithOneAndSeven(Checks check) {
        CaveRelay x = new CaveRelay();
        check.same("begin(1)", 0, x.begin(1));
        check.same("passages", 1, x.value(0));
        check.same("begin(7)", 0, x.begin(7));
        check.same("passages", 7, x.value(0));
    }

    private static void beginReturns(Checks check) {
        CaveRelay x = new CaveRelay();
        check.same("at the time 0", 0, x.begin(3));
        x.pass(1);
        check.same("at the time 1", 1, x.begin(3));
        check.same("at the time 0 again", 0, x.begin(3));
        check.same("at the last time", 100000, Caves.atTime(100000).begin(3));
    }

    private static void beginOutOfRange(Checks check) {
        for (int passages : new int[] {LEAST, -1, 0, 8, 9, MOST}) {
            check.badArgument("begin(" + passages + ")", CaveRelay::new, x -> x.begin(passages));
            check.badArgument("begin(" + passages + ")", Caves::busy, x -> x.begin(passages));
        }
    }

    // ---- promise 3

    private static void setPassageUndone(Checks check) {
        Undoing.once(check, "setPassage", CaveRelay::new, x -> x.setPassage(0, 60, 30));
        Undoing.once(check, "setPassage that changes nothing", CaveRelay::new, x -> x.setPassage(1, 20, 8));
    }

    private static void setPassageFirstAndLast(Checks check) {
        CaveRelay x = Caves.begun(7);
        x.setPassage(0, 11, 12);
        x.setPassage(6, 13, 14);
        check.passage("the first", x, 0, 11, 12, NONE, 0, NONE);
        check.passage("beside the first", x, 1, 20, 8, NONE, 0, NONE);
        check.passage("beside the last", x, 5, 0, 5, NONE, 0, NONE);
        check.passage("the last", x, 6, 13, 14, NONE, 0, NONE);
    }

    private static void setPassageDrops(Checks check) {
        for (int drop : new int[] {0, 1, 59, 60}) {
            CaveRelay x = new CaveRelay();
            check.same("setPassage", 20, x.setPassage(1, drop, 8));
            check.passage("drop " + drop, x, 1, drop, 8);
        }
    }

    private static void setPassageMinutes(Checks check) {
        for (int minutes : new int[] {1, 2, 29, 30}) {
            CaveRelay x = new CaveRelay();
            check.same("setPassage", 20, x.setPassage(1, 20, minutes));
            check.passage("minutes " + minutes, x, 1, 20, minutes);
        }
    }

    private static void setPassageReturns(Checks check) {
        CaveRelay x = new CaveRelay();
        check.same("of an initial crawl", 0, x.setPassage(0, 60, 1));
        check.same("60", 60, x.setPassage(0, 1, 2));
        check.same("1", 1, x.setPassage(0, 0, 3));
        check.same("0", 0, x.setPassage(0, 0, 3));
        check.same("of an initial pitch", 35, x.setPassage(3, 0, 3));
    }

    private static void setPassageNoSuch(Checks check) {
        for (int passage : new int[] {LEAST, -1, 4, 5, MOST}) {
            check.noIndex("passage " + passage, CaveRelay::new, x -> x.setPassage(passage, 0, 1));
            check.noIndex("passage " + passage + ", the rest wrong, too", CaveRelay::new,
                    x -> x.setPassage(passage, 61, 0));
        }
        check.noIndex("passage 1 of 1", () -> Caves.begun(1), x -> x.setPassage(1, 0, 1));
        check.noIndex("passage 7 of 7", () -> Caves.begun(7), x -> x.setPassage(7, 0, 1));
    }

    private static void setPassageOutOfRange(Checks check) {
        for (int drop : new int[] {LEAST, -1, 61, MOST}) {
            check.badArgument("drop " + drop, CaveRelay::new, x -> x.setPassage(1, drop, 8));
        }
        for (int minutes : new int[] {LEAST, -1, 0, 31, MOST}) {
            check.badArgument("minutes " + minutes, CaveRelay::new, x -> x.setPassage(1, 20, minutes));
        }
        check.badArgument("both", CaveRelay::new, x -> x.setPassage(1, -1, 0));
        check.badArgument("drop 61 of a passage in use", () -> Caves.riggedPitch(9, 3, 1, 99),
                x -> x.setPassage(0, 61, 3));
        check.badArgument("minutes 0 of a passage in use", () -> Caves.riggedPitch(9, 3, 1, 99),
                x -> x.setPassage(0, 9, 0));
    }

    private static void setPassageRigged(Checks check) {
        check.notNow("rigged", () -> Caves.riggedPitch(9, 3, 1, 99), x -> x.setPassage(0, 9, 3));
        CaveRelay x = Caves.riggedPitch(9, 3, 1, 99);
        x.takeOff(0);
        check.same("taken off", 9, x.setPassage(0, 0, 3));
        CaveRelay y = Caves.rigging(2, 1);
        y.pass(10);
        check.same("beside one that is rigged", 0, y.setPassage(0, 1, 1));
    }

    private static void setPassageRigging(Checks check) {
        check.notNow("from the first minute", () -> Caves.rigging(2, 1), x -> x.setPassage(1, 0, 1));
        check.notNow("to the last minute", () -> Caves.later(Caves.rigging(2, 1), 9), x -> x.setPassage(1, 0, 1));
        check.same("beside it", 0, Caves.rigging(2, 1).setPassage(0, 1, 1));
        check.notNow("at the surface", () -> Caves.rigging(1, 0), x -> x.setPassage(0, 0, 1));
    }

    private static void setPassageWalkedThrough(Checks check) {
        check.notNow("down", () -> Caves.walking(3, 1, 2), x -> x.setPassage(1, 0, 2));
        check.notNow("down, nearly there", () -> Caves.later(Caves.walking(3, 1, 2), 1), x -> x.setPassage(1, 0, 2));
        check.same("there", 0, Caves.later(Caves.walking(3, 1, 2), 2).setPassage(1, 0, 2));
        check.notNow("up", () -> Caves.walking(3, 2, 1), x -> x.setPassage(1, 0, 2));
        check.same("above", 0, Caves.walking(3, 1, 2).setPassage(0, 0, 2));
        check.same("below", 0, Caves.walking(3, 1, 2).setPassage(2, 0, 2));
        check.same("above, walking up", 0, Caves.walking(3, 2, 1).setPassage(0, 0, 2));
        check.same("below, walking up", 0, Caves.walking(3, 2, 1).setPassage(2, 0, 2));
        check.notNow("carrying", Caves::carrying, x -> x.setPassage(0, 0, 2));
    }

    // ---- promises 4 to 6

    private static void addRopeUndone(Checks check) {
        CaveRelay x = Caves.walking(3, 1, 2);
        x.addRope(44);
        check.rope("lies at the surface", x, 0, 44, 0, 0);
        Undoing.once(check, "addRope", CaveRelay::new, y -> y.addRope(44));
        Undoing.once(check, "the eighth", () -> Caves.ropes(7), y -> y.addRope(44));
    }

    private static void addRopeShortestAndLongest(Checks check) {
        for (int length : new int[] {10, 11, 79, 80}) {
            CaveRelay x = new CaveRelay();
            check.same("addRope", 0, x.addRope(length));
            check.rope("its length", x, 0, length, 0, 0);
        }
    }

    private static void addRopeReturns(Checks check) {
        CaveRelay x = new CaveRelay();
        for (int i = 0; i < 8; i++) {
            check.same("addRope", i, x.addRope(80));
        }
        x.undo();
        check.same("the last once more", 7, x.addRope(80));
    }

    private static void addRopeOutOfRange(Checks check) {
        for (int length : new int[] {LEAST, -1, 0, 9, 81, MOST}) {
            check.badArgument("addRope(" + length + ")", CaveRelay::new, x -> x.addRope(length));
            check.badArgument("addRope(" + length + "), and there are 8", () -> Caves.ropes(8),
                    x -> x.addRope(length));
        }
    }

    private static void ninthRope(Checks check) {
        check.same("the eighth", 7, Caves.ropes(7).addRope(10));
        check.notNow("a ninth", () -> Caves.ropes(8), x -> x.addRope(10));
        check.notNow("a ninth, the longest", () -> Caves.ropes(8), x -> x.addRope(80));
        CaveRelay x = Caves.ropes(8);
        x.begin(4);
        check.same("in the next exercise", 0, x.addRope(10));
    }

    private static void addHelperUndone(Checks check) {
        CaveRelay x = Caves.walking(3, 1, 2);
        x.addHelper(44);
        check.helper("at the surface", x, 1, 44, 0, 0, NONE, 0, NONE, 0, 0, 0);
        Undoing.once(check, "addHelper", CaveRelay::new, y -> y.addHelper(44));
        Undoing.once(check, "the sixth", () -> Caves.helpers(5), y -> y.addHelper(44));
    }

    private static void addHelperShortestAndLongest(Checks check) {
        for (int limit : new int[] {30, 31, 599, 600}) {
            CaveRelay x = new CaveRelay();
            check.same("addHelper", 0, x.addHelper(limit));
            check.helper("the limit", x, 0, limit, 0, 0, NONE, 0, NONE, 0, 0, 0);
        }
    }

    private static void addHelperReturns(Checks check) {
        CaveRelay x = new CaveRelay();
        for (int i = 0; i < 6; i++) {
            check.same("addHelper", i, x.addHelper(600));
        }
        x.undo();
        check.same("the last once more", 5, x.addHelper(600));
    }

    private static void addHelperOutOfRange(Checks check) {
        for (int limit : new int[] {LEAST, -1, 0, 29, 601, MOST}) {
            check.badArgument("addHelper(" + limit + ")", CaveRelay::new, x -> x.addHelper(limit));
            check.badArgument("addHelper(" + limit + "), and there are 6", () -> Caves.helpers(6),
                    x -> x.addHelper(limit));
        }
    }

    private static void seventhHelper(Checks check) {
        check.same("the sixth", 5, Caves.helpers(5).addHelper(30));
        check.notNow("a seventh", () -> Caves.helpers(6), x -> x.addHelper(30));
        check.notNow("a seventh, of the highest limit", () -> Caves.helpers(6), x -> x.addHelper(600));
        CaveRelay x = Caves.helpers(6);
        x.begin(4);
        check.same("in the next exercise", 0, x.addHelper(30));
    }

    private static void setSilenceUndone(Checks check) {
        Undoing.once(check, "setSilence", CaveRelay::new, x -> x.setSilence(5, 7));
        Undoing.once(check, "setSilence that changes nothing", CaveRelay::new, x -> x.setSilence(0, 0));
    }

    private static void setSilenceFirst(Checks check) {
        for (int first : new int[] {0, 1, 99999, 100000}) {
            CaveRelay x = new CaveRelay();
            x.setSilence(first, 100000);
            check.same("first", first, x.value(11));
            check.same("last", 100000, x.value(12));
        }
    }

    private static void setSilenceLast(Checks check) {
        for (int last : new int[] {50, 51, 99999, 100000}) {
            CaveRelay x = new CaveRelay();
            x.setSilence(50, last);
            check.same("first", 50, x.value(11));
            check.same("last", last, x.value(12));
        }
        CaveRelay x = new CaveRelay();
        check.same("both 0", 0, x.setSilence(0, 0));
    }

    private static void setSilenceOfNoMinute(Checks check) {
        CaveRelay x = Caves.walking(2, 1, 2);
        x.pass(2);
        x.send(0);
        x.setSilence(x.value(3), x.value(3));
        check.same("as if there were none", 2, x.reach(0));
        check.same("goes up", 0, x.pass(1));
        x.setSilence(x.value(3), x.value(3) + 1);
        check.same("a minute of it", 0, x.pass(1));
        check.same("comes", 1, x.pass(1));
    }

    private static void setSilenceTold(Checks check) {
        CaveRelay x = new CaveRelay();
        x.setSilence(77, 77);
        check.same("first of none", 77, x.value(11));
        check.same("last of none", 77, x.value(12));
        x.pass(100);
        check.same("first of one that is over", 77, x.value(11));
        check.same("last of one that is over", 77, x.value(12));
        x.setSilence(5, 6);
        check.same("first of one that was", 5, x.value(11));
        check.same("last of one that was", 6, x.value(12));
    }

    private static void setSilenceReturns(Checks check) {
        CaveRelay x = new CaveRelay();
        check.same("initially none", 0, x.setSilence(3, 100000));
        check.same("the last one", 100000, x.setSilence(8, 8));
        check.same("of none", 8, x.setSilence(0, 0));
        check.same("of none", 0, x.setSilence(0, 1));
    }

    private static void setSilenceOutOfRange(Checks check) {
        int[][] wrong = {{-1, 0}, {-1, -1}, {LEAST, 5}, {100001, 100001}, {MOST, MOST}, {0, 100001}, {0, MOST},
            {100000, 100001}, {1, 0}, {100000, 99999}, {5, -1}, {5, LEAST}, {100000, 0}};
        for (int[] pair : wrong) {
            check.badArgument("setSilence(" + pair[0] + ", " + pair[1] + ")", CaveRelay::new,
                    x -> x.setSilence(pair[0], pair[1]));
        }
    }
}
