/** Promises 1 to 6: the cave. */
public final class CaveTest {
    private static final Checks check = new Checks();
    private static final int NONE = CaveRelay.NONE;

    public static void main(String[] args) {
        promise1NewObject();
        promise2Begin();
        promise2BeginMakesAllNew();
        promise2BeginInTheMidst();
        promise3SetPassage();
        promise3SetPassageInUse();
        promise4AddRope();
        promise5AddHelper();
        promise6SetSilence();
        check.end("CaveTest");
    }

    private static void promise1NewObject() {
        CaveRelay x = new CaveRelay();
        check.values("new", x, 4, 0, 0, 0, 4, 0, 0, 0, 0, 0, 2, 0, 0, 0);
        check.passage("new", x, 0, 0, 5, NONE, 0, NONE);
        check.passage("new", x, 1, 20, 8, NONE, 0, NONE);
        check.passage("new", x, 2, 0, 6, NONE, 0, NONE);
        check.passage("new", x, 3, 35, 10, NONE, 0, NONE);
        check.noIndex("new: no passage 4", x, () -> x.passage(4, 0));
        check.notNow("new: nothing saved", x, x::undo);
        check.same("new: no text", 0, x.clearText());
        check.same("NONE", -1, CaveRelay.NONE);
    }

    private static void promise2Begin() {
        CaveRelay x = new CaveRelay();
        check.badArgument("begin(0)", x, () -> x.begin(0));
        check.badArgument("begin(8)", x, () -> x.begin(8));
        check.badArgument("begin(-1)", x, () -> x.begin(-1));
        check.badArgument("begin(least)", x, () -> x.begin(Integer.MIN_VALUE));
        x.pass(17);
        check.same("begin(7)", 17, x.begin(7));
        check.values("begin(7)", x, 7, 0, 0, 0, 7, 0, 0, 0, 0, 0, 2, 0, 0, 0);
        check.passage("begin(7)", x, 3, 35, 10, NONE, 0, NONE);
        check.passage("begin(7)", x, 4, 0, 5, NONE, 0, NONE);
        check.passage("begin(7)", x, 5, 0, 5, NONE, 0, NONE);
        check.passage("begin(7)", x, 6, 0, 5, NONE, 0, NONE);
        x.setPassage(0, 9, 9);
        x.setPassage(6, 9, 9);
        check.same("begin(1)", 0, x.begin(1));
        check.values("begin(1)", x, 1, 0, 0, 0, 1, 0, 0, 0, 0, 0, 0, 0, 0, 0);
        check.passage("begin(1)", x, 0, 0, 5, NONE, 0, NONE);
        check.noIndex("begin(1): no passage 1", x, () -> x.passage(1, 0));
        x.begin(7);
        check.passage("begin(7) again", x, 6, 0, 5, NONE, 0, NONE);
    }

    private static void promise2BeginMakesAllNew() {
        CaveRelay x = Caves.crawls(2, 2);
        x.addRope(20);
        Caves.addHelpers(x, 4, 30);
        x.take(3, 0);
        Caves.walkDown(x, 3, 2);
        x.carry(7);
        x.send(3);
        x.setSilence(0, 50);
        x.pass(6);
        x.send(0);
        x.pass(30);
        Caves.write(x, "p1;");
        check.hold("something counted ahead of begin", x.value(7) == 1 && x.value(8) == 1 && x.value(9) == 1);
        check.same("begin(3)", x.value(3), x.begin(3));
        check.values("begin(3)", x, 3, 0, 0, 0, 3, 0, 0, 0, 0, 0, 1, 0, 0, 0);
        check.noIndex("begin(3): no message", x, () -> x.message(0, 0));
        check.noIndex("begin(3): no carry", x, () -> x.carried(0, 0));
        check.noIndex("begin(3): no rope", x, () -> x.rope(0, 0));
        check.noIndex("begin(3): no helper", x, () -> x.helper(0, 0));
        check.same("begin(3): a helper", 0, x.addHelper(33));
        check.helper("begin(3)", x, 0, 33, 0, 0, NONE, 0, NONE, 0, 0, 0);
        check.same("begin(3): the text stays", 3, x.clearText());
    }

    /** The stretcher is carried, a rope is rigged, a helper rigs, and another one is too late. */
    private static void promise2BeginInTheMidst() {
        CaveRelay x = Caves.crawls(2, 2);
        Caves.addHelpers(x, 6, 600);
        Caves.walkDown(x, 4, 2);
        x.begin(2);
        x.setPassage(1, 5, 1);
        x.setPassage(0, 0, 30);
        x.addRope(70);
        x.addRope(60);
        x.addHelper(60);
        Caves.addHelpers(x, 5, 600);
        x.take(0, 0);
        Caves.walkDown(x, 1, 1);
        x.setPassage(0, 5, 30);
        x.pass(32);
        x.take(1, 1);
        x.rig(1);
        x.pass(10);
        Caves.walkDownFrom(x, 1, 0, 1);
        check.hold("something too late", x.value(13) > 0);
        x.setSilence(5, 500);
        x.takeOff(2);
        x.pass(1);
        x.rig(2);
        x.begin(2);
        check.values("begin in the midst", x, 2, 0, 0, 0, 2, 0, 0, 0, 0, 0, 1, 0, 0, 0);
        check.passage("begin in the midst", x, 0, 0, 5, NONE, 0, NONE);
        x.addRope(11);
        x.addRope(12);
        check.rope("a rope again", x, 0, 11, 0, 0);
        check.rope("a rope again", x, 1, 12, 0, 0);
        for (int h = 0; h < 6; h++) {
            x.addHelper(31 + h);
            check.helper("a helper again", x, h, 31 + h, 0, 0, NONE, 0, NONE, 0, 0, 0);
        }
        beginWhileCarrying();
    }

    private static void beginWhileCarrying() {
        CaveRelay x = Caves.crawls(1, 2);
        Caves.addHelpers(x, 4, 600);
        Caves.walkDown(x, 4, 1);
        x.carry(0b1110);
        x.pass(1);
        x.begin(3);
        check.values("begin while carrying", x, 3, 0, 0, 0, 3, 0, 0, 0, 0, 0, 1, 0, 0, 0);
        for (int h = 0; h < 4; h++) {
            x.addHelper(40);
            check.helper("a helper again", x, h, 40, 0, 0, NONE, 0, NONE, 0, 0, 0);
        }
        check.passage("nobody walks", x, 0, 0, 5, NONE, 0, NONE);
    }

    private static void promise3SetPassage() {
        CaveRelay x = new CaveRelay();
        check.same("setPassage", 20, x.setPassage(1, 60, 30));
        check.passage("setPassage", x, 1, 60, 30, NONE, 0, NONE);
        check.same("setPassage", 60, x.setPassage(1, 0, 1));
        check.passage("setPassage", x, 1, 0, 1, NONE, 0, NONE);
        check.passage("setPassage leaves the others", x, 0, 0, 5, NONE, 0, NONE);
        check.noIndex("setPassage(-1)", x, () -> x.setPassage(-1, 0, 1));
        check.noIndex("setPassage(4)", x, () -> x.setPassage(4, 0, 1));
        check.noIndex("setPassage(4) with all wrong", x, () -> x.setPassage(4, 61, 0));
        check.badArgument("drop -1", x, () -> x.setPassage(0, -1, 1));
        check.badArgument("drop 61", x, () -> x.setPassage(0, 61, 1));
        check.badArgument("minutes 0", x, () -> x.setPassage(0, 0, 0));
        check.badArgument("minutes 31", x, () -> x.setPassage(0, 0, 31));
    }

    private static void promise3SetPassageInUse() {
        CaveRelay x = new CaveRelay();
        x.begin(2);
        x.setPassage(0, 5, 4);
        x.addRope(10);
        Caves.addHelpers(x, 2, 100);
        x.take(0, 0);
        x.rig(0);
        check.notNow("a helper is rigging", x, () -> x.setPassage(0, 5, 4));
        check.badArgument("rigging, and out of range", x, () -> x.setPassage(0, 5, 31));
        x.pass(10);
        check.notNow("rigged", x, () -> x.setPassage(0, 5, 4));
        check.same("the other passage is free", 20, x.setPassage(1, 0, 6));
        x.go(0, 1);
        x.pass(4);
        check.same("nobody walks yet", 0, x.setPassage(1, 0, 6));
        x.go(0, 2);
        check.notNow("a helper walks down", x, () -> x.setPassage(1, 0, 6));
        x.pass(6);
        check.same("a helper stands below", 0, x.setPassage(1, 0, 3));
        x.go(0, 1);
        check.notNow("a helper walks up", x, () -> x.setPassage(1, 0, 6));
    }

    private static void promise4AddRope() {
        CaveRelay x = new CaveRelay();
        check.badArgument("addRope(9)", x, () -> x.addRope(9));
        check.badArgument("addRope(81)", x, () -> x.addRope(81));
        check.badArgument("addRope(-20)", x, () -> x.addRope(-20));
        for (int i = 0; i < 8; i++) {
            check.same("addRope", i, x.addRope(i == 0 ? 10 : i == 7 ? 80 : 30 + i));
        }
        check.rope("the first", x, 0, 10, 0, 0);
        check.rope("one between", x, 3, 33, 0, 0);
        check.rope("the last", x, 7, 80, 0, 0);
        check.same("ropes", 8, x.value(1));
        check.notNow("a ninth", x, () -> x.addRope(10));
        check.badArgument("a ninth, too short", x, () -> x.addRope(9));
    }

    private static void promise5AddHelper() {
        CaveRelay x = new CaveRelay();
        check.badArgument("addHelper(29)", x, () -> x.addHelper(29));
        check.badArgument("addHelper(601)", x, () -> x.addHelper(601));
        for (int i = 0; i < 6; i++) {
            check.same("addHelper", i, x.addHelper(i == 0 ? 30 : i == 5 ? 600 : 100 + i));
        }
        check.helper("the first", x, 0, 30, 0, 0, NONE, 0, NONE, 0, 0, 0);
        check.helper("the last", x, 5, 600, 0, 0, NONE, 0, NONE, 0, 0, 0);
        check.same("helpers", 6, x.value(2));
        check.notNow("a seventh", x, () -> x.addHelper(30));
        check.badArgument("a seventh, limit too high", x, () -> x.addHelper(601));
    }

    private static void promise6SetSilence() {
        CaveRelay x = new CaveRelay();
        check.same("setSilence", 0, x.setSilence(3, 9));
        check.same("first", 3, x.value(11));
        check.same("last", 9, x.value(12));
        check.same("setSilence", 9, x.setSilence(100000, 100000));
        check.same("first", 100000, x.value(11));
        check.same("last", 100000, x.value(12));
        check.same("setSilence", 100000, x.setSilence(0, 0));
        check.badArgument("first -1", x, () -> x.setSilence(-1, 5));
        check.badArgument("first 100001", x, () -> x.setSilence(100001, 100001));
        check.badArgument("last 100001", x, () -> x.setSilence(0, 100001));
        check.badArgument("last below first", x, () -> x.setSilence(6, 5));
    }
}
