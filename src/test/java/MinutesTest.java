/** Promise 14, and what happens when a minute passes. */
public final class MinutesTest {
    private static final Checks check = new Checks();
    private static final int NONE = CaveRelay.NONE;

    public static void main(String[] args) {
        passRefused();
        passCountsMessages();
        silenceHoldsMessages();
        messagesOfSeveralStations();
        tirednessOfWalking();
        restAtTheSurface();
        turnBackInTime();
        turnBackInOneMinute();
        turnBackRefused();
        turnBackBehindTheRigger();
        turnBackAheadOfTheRigger();
        tooLateOnTheWay();
        rigAtTheSurface();
        messageGoesBehindTheHelpers();
        check.end("MinutesTest");
    }

    private static void passRefused() {
        CaveRelay x = new CaveRelay();
        check.badArgument("pass(0)", x, () -> x.pass(0));
        check.badArgument("pass(-1)", x, () -> x.pass(-1));
        check.badArgument("pass(601)", x, () -> x.pass(601));
        check.badArgument("pass(most)", x, () -> x.pass(Integer.MAX_VALUE));
        for (int i = 0; i < 166; i++) {
            x.pass(600);
        }
        check.same("time", 99600, x.value(3));
        check.notNow("to 100001", x, () -> x.pass(401));
        check.same("to 100000", 0, x.pass(400));
        check.same("time", 100000, x.value(3));
        check.notNow("to 100001", x, () -> x.pass(1));
        check.badArgument("out of range, and too late", x, () -> x.pass(601));
    }

    private static void passCountsMessages() {
        CaveRelay x = Caves.crawls(3, 1);
        x.addHelper(100);
        Caves.walkDown(x, 1, 3);
        x.send(0);
        check.same("2 minutes", 0, x.pass(2));
        check.message("at station 1", x, 0, 0, 3, 1);
        x.send(0);
        check.same("the first comes", 1, x.pass(1));
        check.message("the second is the first one now", x, 0, 0, 5, 2);
        check.same("one counted", 1, x.value(8));
        check.same("the second comes", 1, x.pass(600));
        check.same("two counted", 2, x.value(8));
        check.same("none", 0, x.pass(1));
    }

    private static void silenceHoldsMessages() {
        CaveRelay x = Caves.crawls(3, 1);
        x.addHelper(100);
        Caves.walkDown(x, 1, 3);
        x.setSilence(4, 6);
        x.send(0);
        check.same("the minute from 3 is not silent", 0, x.pass(1));
        check.message("goes up", x, 0, 0, 3, 2);
        x.pass(2);
        check.message("the minutes from 4 and 5 are", x, 0, 0, 3, 2);
        x.pass(1);
        check.message("the minute from 6 is not", x, 0, 0, 3, 1);
        x.setSilence(7, 7);
        check.same("first equal to last", 1, x.pass(1));
        x.setSilence(0, 100000);
        x.send(0);
        x.pass(10);
        check.message("all silent", x, 0, 0, 8, 3);
    }

    private static void messagesOfSeveralStations() {
        CaveRelay x = Caves.crawls(3, 1);
        Caves.addHelpers(x, 3, 100);
        for (int s = 1; s <= 3; s++) {
            for (int h = s - 1; h < 3; h++) {
                x.go(h, s);
            }
            x.pass(1);
        }
        x.send(1);
        x.send(0);
        x.send(2);
        x.send(0);
        check.same("two from station 1", 2, x.pass(1));
        check.message("in their order", x, 0, 1, 3, 1);
        check.message("in their order", x, 1, 2, 3, 2);
        check.noIndex("not more", x, () -> x.message(2, 0));
        check.same("one", 1, x.pass(1));
        check.message("the last", x, 0, 2, 3, 1);
    }

    private static void tirednessOfWalking() {
        CaveRelay x = Caves.riggedPitch(30, 7, 1, 100);
        x.go(0, 1);
        x.pass(7);
        check.same("1 a minute down a pitch", 7, x.helper(0, 6));
        x.go(0, 0);
        x.pass(6);
        check.same("2 a minute up a pitch", 19, x.helper(0, 6));
        x.pass(1);
        check.same("the last one, too", 21, x.helper(0, 6));
        CaveRelay y = Caves.crawls(1, 7);
        y.addHelper(100);
        Caves.walkDown(y, 1, 1);
        y.go(0, 0);
        y.pass(7);
        check.same("1 a minute up a crawl", 14, y.helper(0, 6));
        y.pass(13);
        check.same("rests from the minute behind", 1, y.helper(0, 6));
    }

    private static void restAtTheSurface() {
        CaveRelay x = Caves.crawls(1, 5);
        x.addHelper(100);
        x.addRope(80);
        Caves.walkDown(x, 1, 1);
        x.pass(5);
        check.same("no rest below", 5, x.helper(0, 6));
        x.go(0, 0);
        x.pass(5);
        check.same("up", 10, x.helper(0, 6));
        x.setPassage(0, 9, 5);
        x.take(0, 0);
        x.rig(0);
        x.pass(10);
        check.same("no rest rigging, also in its last minute", 10, x.helper(0, 6));
        x.pass(1);
        check.same("rest", 9, x.helper(0, 6));
        x.pass(20);
        check.same("not below 0", 0, x.helper(0, 6));
    }

    private static void turnBackInTime() {
        CaveRelay x = Caves.crawls(2, 5);
        x.addHelper(30);
        x.addHelper(31);
        Caves.walkDown(x, 2, 2);
        // 10 minutes below, 10 up: helper 0 can stay for 10 minutes
        x.pass(10);
        check.helper("in time", x, 0, 30, 2, 0, NONE, 0, NONE, 10, 20, 0);
        x.pass(1);
        check.helper("turned back", x, 0, 30, 2, 1, 1, 4, NONE, 11, 21, 0);
        check.helper("not yet", x, 1, 31, 2, 0, NONE, 0, NONE, 10, 21, 0);
        x.pass(1);
        check.helper("turned back", x, 1, 31, 2, 1, 1, 4, NONE, 11, 22, 0);
        x.pass(3);
        check.helper("at station 1", x, 0, 30, 1, 0, NONE, 0, NONE, 15, 25, 0);
        x.pass(1);
        check.helper("and on", x, 0, 30, 1, 1, 0, 4, NONE, 16, 26, 0);
        x.pass(4);
        check.helper("up within the limit", x, 0, 30, 0, 0, NONE, 0, NONE, 20, 0, 0);
        check.same("nothing too late", 0, x.value(13));
        x.pass(1);
        check.helper("up within the limit", x, 1, 31, 0, 0, NONE, 0, NONE, 20, 0, 0);
        check.same("nothing too late", 0, x.value(13));
    }

    private static void turnBackInOneMinute() {
        CaveRelay x = Caves.crawls(1, 1);
        x.addHelper(30);
        Caves.walkDown(x, 1, 1);
        x.pass(28);
        check.helper("29 minutes below", x, 0, 30, 1, 0, NONE, 0, NONE, 1, 29, 0);
        x.pass(1);
        check.helper("up in this minute, without rest", x, 0, 30, 0, 0, NONE, 0, NONE, 2, 0, 0);
        check.same("nothing too late", 0, x.value(13));
    }

    private static void turnBackRefused() {
        CaveRelay x = Caves.riggedPitch(30, 5, 2, 30);
        x.go(0, 1);
        x.pass(5);
        x.takeOff(1);
        x.pass(25);
        check.helper("cannot go up", x, 0, 30, 1, 0, NONE, 0, NONE, 5, 30, 0);
        check.same("30 of 30 minutes", 0, x.value(13));
        x.pass(3);
        check.same("three minutes too late", 3, x.value(13));
        x.rig(1);
        x.pass(10);
        check.same("the rope is there behind the turn of helper 0", 13, x.value(13));
        check.helper("still below", x, 0, 30, 1, 0, NONE, 0, NONE, 5, 43, 0);
        x.pass(4);
        check.helper("goes up", x, 0, 30, 1, 1, 0, 1, NONE, 13, 47, 0);
        check.same("too late on the way", 17, x.value(13));
        x.pass(1);
        check.helper("up", x, 0, 30, 0, 0, NONE, 0, NONE, 15, 0, 0);
        check.same("the last minute is not too late", 17, x.value(13));
        CaveRelay y = Caves.crawls(1, 30);
        y.addHelper(60);
        Caves.walkDown(y, 1, 1);
        y.go(0, 0);
        y.pass(30);
        y.setPassage(0, 0, 20);
        y.go(0, 1);
        y.pass(20);
        y.setPassage(0, 0, 21);
        check.same("too tired to go up", 4, y.why(0, 0));
        y.pass(41);
        check.helper("stays", y, 0, 60, 1, 0, NONE, 0, NONE, 80, 61, 0);
        check.same("one minute too late", 1, y.value(13));
    }

    /** Helper 0 rigs the pitch above helper 1, and ends in the minute in which helper 1 must go. */
    private static void turnBackBehindTheRigger() {
        CaveRelay x = riggedAgain(0, 1);
        x.pass(10);
        check.helper("rigged", x, 0, 600, 0, 0, NONE, 0, NONE, 0, 0, 0);
        check.helper("goes in the same minute", x, 1, 30, 1, 1, 0, 4, NONE, 7, 26, 0);
    }

    /** Helper 1 rigs the pitch above helper 0, and ends in the minute in which helper 0 must go. */
    private static void turnBackAheadOfTheRigger() {
        CaveRelay x = riggedAgain(1, 0);
        x.pass(10);
        check.helper("rigged", x, 1, 600, 0, 0, NONE, 0, NONE, 0, 0, 0);
        check.helper("had its turn already", x, 0, 30, 1, 0, NONE, 0, NONE, 5, 26, 0);
        x.pass(1);
        check.helper("goes in the next minute", x, 0, 30, 1, 1, 0, 4, NONE, 7, 27, 0);
    }

    private static CaveRelay riggedAgain(int rigger, int below) {
        CaveRelay x = new CaveRelay();
        x.begin(1);
        x.addRope(40);
        x.addHelper(rigger == 0 ? 600 : 30);
        x.addHelper(rigger == 0 ? 30 : 600);
        x.go(below, 1);
        x.pass(5);
        x.setPassage(0, 20, 5);
        x.take(rigger, 0);
        // 16 minutes below, so that the last one of the rigging is the 26th
        x.pass(11);
        x.rig(rigger);
        return x;
    }

    private static void tooLateOnTheWay() {
        CaveRelay x = Caves.crawls(2, 10);
        x.addHelper(40);
        x.addHelper(40);
        Caves.walkDown(x, 2, 2);
        x.go(0, 1);
        x.go(1, 1);
        x.setPassage(0, 0, 30);
        x.pass(10);
        check.same("in time so far", 0, x.value(13));
        x.pass(10);
        check.helper("40 minutes", x, 0, 40, 1, 1, 0, 20, NONE, 40, 40, 0);
        check.same("not too late yet", 0, x.value(13));
        x.pass(1);
        check.same("both are", 2, x.value(13));
        x.pass(18);
        check.same("both are", 38, x.value(13));
        x.pass(1);
        check.same("up in this one", 38, x.value(13));
    }

    private static void rigAtTheSurface() {
        CaveRelay x = new CaveRelay();
        x.begin(1);
        x.setPassage(0, 20, 4);
        x.addRope(30);
        x.addHelper(30);
        x.take(0, 0);
        check.same("rig", 0, x.rig(0));
        x.pass(5);
        check.helper("not below", x, 0, 30, 0, 2, NONE, 5, 0, 0, 0, 0);
        check.same("not below", 0, x.value(6));
        x.pass(5);
        check.helper("rigged", x, 0, 30, 0, 0, NONE, 0, NONE, 0, 0, 0);
    }

    private static void messageGoesBehindTheHelpers() {
        CaveRelay x = Caves.crawls(1, 3);
        x.addHelper(100);
        Caves.walkDown(x, 1, 1);
        x.send(0);
        x.setSilence(3, 4);
        check.same("by the time ahead of the minute", 0, x.pass(1));
        check.same("it comes", 1, x.pass(1));
        check.same("time", 5, x.value(3));
    }
}
