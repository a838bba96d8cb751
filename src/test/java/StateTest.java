/** Promises 32 and 33, and what is undoable. */
public final class StateTest {
    private static final Checks check = new Checks();

    private interface Deed {
        void on(CaveRelay x);
    }

    public static void main(String[] args) {
        promise32Undo();
        promise32FourStates();
        promise32EachDeedIsSaved();
        promise32NoOtherCallIsSaved();
        promise32SavedEvenIfNothingChanges();
        promise32TakesBackAll();
        promise32TakesBackEachRow();
        promise33DigestOfANewObject();
        promise33Digest();
        check.end("StateTest");
    }

    private static void promise32Undo() {
        CaveRelay x = new CaveRelay();
        check.notNow("nothing saved", x, x::undo);
        x.addRope(20);
        x.addRope(30);
        check.same("undo", 1, x.undo());
        check.same("a rope less", 1, x.value(1));
        check.same("undo", 0, x.undo());
        check.same("no ropes", 0, x.value(1));
        check.notNow("nothing saved any more", x, x::undo);
        Caves.write(x, "p1;");
        x.addHelper(50);
        x.clearText();
        x.append('p');
        x.undo();
        check.same("the text stays", 1, x.clearText());
    }

    private static void promise32FourStates() {
        CaveRelay x = new CaveRelay();
        for (int i = 1; i <= 9; i++) {
            x.pass(i);
        }
        check.same("time", 45, x.value(3));
        int[] times = {36, 28, 21, 15};
        for (int i = 0; i < 4; i++) {
            check.same("undo", 3 - i, x.undo());
            check.same("time", times[i], x.value(3));
        }
        check.notNow("the oldest were dropped", x, x::undo);
        x.pass(2);
        x.pass(3);
        check.same("undo", 1, x.undo());
        x.pass(4);
        check.same("undo", 1, x.undo());
        check.same("time", 17, x.value(3));
        check.same("undo", 0, x.undo());
        check.same("time", 15, x.value(3));
    }

    private static void savesOnce(String what, CaveRelay x, Deed deed) {
        x.begin(3);
        x.begin(1);
        x.setPassage(0, 0, 3);
        x.addRope(50);
        Caves.addHelpers(x, 5, 200);
        x.take(0, 0);
        Caves.walkDown(x, 3, 1);
        x.lay(0);
        x.pass(1);
        x.go(3, 1);
        long before = x.digest();
        deed.on(x);
        check.hold(what + " changes something", x.digest() != before);
        check.same(what + " is undoable", 3, x.undo());
        // four states were saved, one of them was dropped: but for their number all is as before
        x.pass(1);
        x.undo();
        check.same(what + " is taken back", before - 1, x.digest());
    }

    private static void promise32EachDeedIsSaved() {
        savesOnce("begin", new CaveRelay(), x -> x.begin(4));
        savesOnce("addRope", new CaveRelay(), x -> x.addRope(20));
        savesOnce("addHelper", new CaveRelay(), x -> x.addHelper(20 + 30));
        savesOnce("setSilence", new CaveRelay(), x -> x.setSilence(5, 9));
        savesOnce("go", new CaveRelay(), x -> x.go(1, 0));
        savesOnce("take", new CaveRelay(), x -> x.take(1, 0));
        savesOnce("carry", new CaveRelay(), x -> x.carry(7));
        savesOnce("send", new CaveRelay(), x -> x.send(1));
        savesOnce("send from the surface", new CaveRelay(), x -> x.send(4));
        savesOnce("pass", new CaveRelay(), x -> x.pass(70));
        CaveRelay text = new CaveRelay();
        Caves.write(text, "g10;p1;g20;p9;m1;");
        savesOnce("carryOut", text, CaveRelay::carryOut);
        CaveRelay x = new CaveRelay();
        x.begin(1);
        x.addRope(50);
        x.addHelper(200);
        long plain = afterUndo(x);
        x.setPassage(0, 20, 3);
        check.same("setPassage is undoable", plain, undone(x));
        x.setPassage(0, 20, 3);
        x.take(0, 0);
        plain = afterUndo(x);
        x.lay(0);
        check.same("lay is undoable", plain, undone(x));
        x.rig(0);
        check.same("rig is undoable", plain, undone(x));
        x.rig(0);
        x.pass(10);
        plain = afterUndo(x);
        x.takeOff(0);
        check.same("takeOff is undoable", plain, undone(x));
    }

    /** The digest with three saved states. */
    private static long afterUndo(CaveRelay x) {
        for (int i = 0; i < 4; i++) {
            x.setSilence(x.value(11), x.value(12));
        }
        x.undo();
        return x.digest();
    }

    private static long undone(CaveRelay x) {
        check.same("undo", 3, x.undo());
        return x.digest();
    }

    private static void promise32NoOtherCallIsSaved() {
        CaveRelay x = new CaveRelay();
        x.addRope(50);
        x.addHelper(200);
        x.append('p');
        x.clearText();
        x.value(0);
        x.passage(0, 0);
        x.rope(0, 0);
        x.helper(0, 0);
        x.why(0, 1);
        x.minutesUp(0);
        x.spare(0);
        x.bestRope(0);
        x.carryMinutes();
        x.team();
        x.reach(0);
        x.meanTiredness();
        x.digest();
        check.notNow("a call that is refused", x, () -> x.go(0, 2));
        check.same("undo", 1, x.undo());
        check.same("undo", 0, x.undo());
    }

    private static void promise32SavedEvenIfNothingChanges() {
        CaveRelay x = new CaveRelay();
        x.setSilence(0, 0);
        x.setPassage(1, 20, 8);
        x.begin(4);
        check.same("three states", 2, x.undo());
    }

    private static void promise32TakesBackAll() {
        CaveRelay x = Caves.crawls(2, 2);
        x.addRope(20);
        x.addRope(30);
        Caves.addHelpers(x, 4, 60);
        x.take(3, 1);
        Caves.walkDown(x, 4, 2);
        x.lay(3);
        x.send(3);
        x.carry(7);
        x.setSilence(5, 30);
        x.pass(9);
        x.send(3);
        x.pass(1);
        x.undo();
        x.undo();
        x.undo();
        x.undo();
        x.setSilence(5, 30);
        long before = x.digest();
        Caves.write(x, "p9;m3;p300;g01;");
        x.clearText();
        x.begin(7);
        x.undo();
        check.same("begin is taken back whole", before, x.digest());
        check.carried("the log", x, 0, 4, 2, 7);
        check.message("the message", x, 0, 3, 4, 2);
        check.helper("a carrier", x, 2, 60, 2, 1, 1, 6, -1, 4, 4, 1);
        check.rope("laid", x, 1, 30, 0, 2);
    }

    /** What was written into the rows behind the save does not shine through. */
    private static void promise32TakesBackEachRow() {
        CaveRelay x = new CaveRelay();
        x.addRope(20);
        x.addHelper(200);
        x.take(0, 0);
        Caves.walkDownFrom(x, 0, 0, 1);
        x.lay(0);
        x.begin(1);
        x.addRope(30);
        x.addHelper(30);
        x.undo();
        x.undo();
        x.undo();
        check.rope("the rope", x, 0, 20, 0, 1);
        check.helper("the helper", x, 0, 200, 1, 0, -1, 0, -1, 5, 5, 0);
        check.passage("the passage", x, 3, 35, 10, -1, 0, -1);
        x.setPassage(0, 0, 2);
        x.setPassage(1, 0, 1);
        x.addHelper(60);
        Caves.walkDownFrom(x, 1, 0, 1);
        x.send(0);
        Caves.walkDownFrom(x, 1, 1, 2);
        x.send(0);
        x.pass(5);
        Caves.write(x, "m1;p1;m0;");
        x.carryOut();
        x.undo();
        x.undo();
        check.message("the message", x, 0, 0, 8, 1);
        check.same("one message", 1, x.value(7));
        takesBackTheLog();
        takesBackMinutesLate();
    }

    private static void takesBackTheLog() {
        CaveRelay x = Caves.crawls(2, 2);
        Caves.addHelpers(x, 4, 100);
        Caves.walkDown(x, 4, 2);
        x.carry(0b0111);
        Caves.write(x, "p6;g31;p2;c013;p1;");
        check.same("another carry", 5, x.carryOut());
        x.undo();
        check.carried("the first one", x, 0, 4, 2, 0b0111);
        check.same("one carry", 1, x.value(9));
        check.noIndex("one is kept", x, () -> x.carried(1, 0));
        check.same("carried", 1, x.value(5));
    }

    private static void takesBackMinutesLate() {
        CaveRelay x = Caves.crawls(1, 2);
        x.addHelper(30);
        Caves.walkDown(x, 1, 1);
        x.setPassage(0, 9, 2);
        x.pass(30);
        check.same("two too late", 2, x.value(13));
        x.pass(5);
        check.same("seven too late", 7, x.value(13));
        x.undo();
        check.same("two too late", 2, x.value(13));
        x.begin(1);
        check.same("none", 0, x.value(13));
    }

    private static long hash(long h, int... values) {
        for (int v : values) {
            h = 31 * h + v;
        }
        return h;
    }

    private static void promise33DigestOfANewObject() {
        long h = hash(3613, 0);
        h = hash(h, 4, 0, 0, 0, 4, 0, 0, 0, 0, 0, 2, 0, 0, 0);
        h = hash(h, 0, 5, -1, 0, -1);
        h = hash(h, 20, 8, -1, 0, -1);
        h = hash(h, 0, 6, -1, 0, -1);
        h = hash(h, 35, 10, -1, 0, -1);
        h = hash(h, 0);
        check.same("digest()", h, new CaveRelay().digest());
    }

    private static void promise33Digest() {
        CaveRelay x = Caves.crawls(1, 3);
        x.addRope(20);
        x.addRope(30);
        Caves.addHelpers(x, 4, 60);
        Caves.walkDown(x, 3, 1);
        x.send(1);
        x.send(2);
        x.carry(7);
        x.take(3, 1);
        Caves.write(x, "p1;g");
        x.setSilence(2, 50);
        x.pass(2);
        long h = hash(3613, 4);
        h = hash(h, 1, 2, 4, 5, 1, 1, 3, 2, 0, 1, 0, 2, 50, 0);
        h = hash(h, 0, 3, -1, 3, -1);
        h = hash(h, 20, 0, 0);
        h = hash(h, 30, 1, 3);
        for (int i = 0; i < 3; i++) {
            h = hash(h, 60, 1, 1, 0, 7, -1, 7, 5, 1);
        }
        h = hash(h, 60, 0, 0, -1, 0, 1, 0, 0, 0);
        h = hash(h, 1, 3, 1);
        h = hash(h, 2, 3, 1);
        h = hash(h, 3, 1, 7);
        h = hash(h, 4);
        check.same("digest()", h, x.digest());
        x.undo();
        check.hold("another state", h != x.digest());
    }
}
