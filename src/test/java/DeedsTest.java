/** Promises 7 to 13: the deeds of helpers. */
public final class DeedsTest {
    private static final Checks check = new Checks();
    private static final int NONE = CaveRelay.NONE;

    public static void main(String[] args) {
        promise7Go();
        promise7GoRefused();
        promise8Take();
        promise9Lay();
        promise10Rig();
        promise10RigRefused();
        promise10RigInTime();
        promise11TakeOff();
        promise11TakeOffRefused();
        promise12Carry();
        promise12CarryRefused();
        promise12CarryTiredOrLate();
        promise12CarryUpAPitch();
        promise13Send();
        check.end("DeedsTest");
    }

    private static void promise7Go() {
        CaveRelay x = new CaveRelay();
        x.addHelper(100);
        check.same("go(0, 1)", 5, x.go(0, 1));
        check.helper("on the way down", x, 0, 100, 0, 1, 1, 5, NONE, 0, 0, 0);
        check.same("walkers", 1, x.passage(0, 3));
        check.same("below at once", 1, x.value(6));
        x.pass(4);
        check.helper("a minute to go", x, 0, 100, 0, 1, 1, 1, NONE, 4, 4, 0);
        x.pass(1);
        check.helper("at station 1", x, 0, 100, 1, 0, NONE, 0, NONE, 5, 5, 0);
        check.same("go(0, 0)", 5, x.go(0, 0));
        check.helper("on the way up", x, 0, 100, 1, 1, 0, 5, NONE, 5, 5, 0);
        check.same("walkers", 1, x.passage(0, 3));
        x.pass(5);
        check.helper("at the surface", x, 0, 100, 0, 0, NONE, 0, NONE, 10, 0, 0);
        check.same("nobody below", 0, x.value(6));
    }

    private static void promise7GoRefused() {
        CaveRelay x = new CaveRelay();
        x.addHelper(100);
        check.noIndex("go(-1, 1)", x, () -> x.go(-1, 1));
        check.noIndex("go(1, 1)", x, () -> x.go(1, 1));
        check.notNow("above the surface", x, () -> x.go(0, -1));
        check.notNow("where the helper is", x, () -> x.go(0, 0));
        check.notNow("not beside", x, () -> x.go(0, 2));
        x.go(0, 1);
        check.notNow("walking", x, () -> x.go(0, 1));
        x.pass(5);
        check.notNow("a pitch that is not rigged", x, () -> x.go(0, 2));
    }

    private static void promise8Take() {
        CaveRelay x = new CaveRelay();
        x.addRope(22);
        x.addRope(60);
        Caves.addHelpers(x, 2, 100);
        check.noIndex("take(2, 0)", x, () -> x.take(2, 0));
        check.noIndex("take(-1, 0)", x, () -> x.take(-1, 0));
        check.noIndex("take(0, 2)", x, () -> x.take(0, 2));
        check.noIndex("take(0, -1)", x, () -> x.take(0, -1));
        check.same("take(0, 1)", 60, x.take(0, 1));
        check.rope("with helper 0", x, 1, 60, 1, 0);
        check.same("has it", 1, x.helper(0, 5));
        check.notNow("has one", x, () -> x.take(0, 0));
        check.notNow("another has it", x, () -> x.take(1, 1));
        check.noIndex("has one, and no such rope", x, () -> x.take(0, 2));
        x.go(1, 1);
        check.notNow("walking", x, () -> x.take(1, 0));
        x.pass(5);
        check.notNow("lies at another station", x, () -> x.take(1, 0));
        x.go(0, 1);
        x.pass(5);
        x.lay(0);
        check.same("take(1, 1)", 60, x.take(1, 1));
        check.rope("with helper 1", x, 1, 60, 1, 1);
    }

    private static void promise9Lay() {
        CaveRelay x = new CaveRelay();
        x.addRope(22);
        x.addRope(23);
        Caves.addHelpers(x, 2, 100);
        check.noIndex("lay(2)", x, () -> x.lay(2));
        check.noIndex("lay(-1)", x, () -> x.lay(-1));
        check.notNow("has none", x, () -> x.lay(0));
        x.take(1, 1);
        x.go(1, 1);
        check.notNow("walking", x, () -> x.lay(1));
        x.pass(5);
        check.same("lay(1)", 1, x.lay(1));
        check.rope("at station 1", x, 1, 23, 0, 1);
        check.same("has none now", NONE, x.helper(1, 5));
        check.notNow("laid already", x, () -> x.lay(1));
        x.take(1, 1);
        x.rig(1);
        check.notNow("rigging", x, () -> x.lay(1));
    }

    private static void promise10Rig() {
        CaveRelay x = new CaveRelay();
        x.addRope(23);
        x.addRope(23);
        Caves.addHelpers(x, 2, 100);
        x.take(0, 0);
        x.take(1, 1);
        Caves.walkDown(x, 2, 1);
        check.same("rig(0)", 1, x.rig(0));
        check.helper("rigging", x, 0, 100, 1, 2, NONE, 10, 0, 5, 5, 0);
        check.passage("rigging", x, 1, 20, 8, NONE, 0, 0);
        check.rope("still with the helper", x, 0, 23, 1, 0);
        check.notNow("another is rigging it", x, () -> x.rig(1));
        check.notNow("rigging already", x, () -> x.rig(0));
        x.pass(9);
        check.helper("nearly rigged", x, 0, 100, 1, 2, NONE, 1, 0, 5, 14, 0);
        check.same("not yet", NONE, x.passage(1, 2));
        x.pass(1);
        check.helper("rigged", x, 0, 100, 1, 0, NONE, 0, NONE, 5, 15, 0);
        check.passage("rigged", x, 1, 20, 8, 0, 0, NONE);
        check.rope("rigged", x, 0, 23, 2, 1);
        check.notNow("rigged already", x, () -> x.rig(1));
        check.same("pitches that are not rigged", 1, x.value(10));
    }

    private static void promise10RigRefused() {
        CaveRelay x = new CaveRelay();
        x.begin(2);
        x.addRope(22);
        x.addRope(23);
        Caves.addHelpers(x, 3, 100);
        check.noIndex("rig(3)", x, () -> x.rig(3));
        check.noIndex("rig(-1)", x, () -> x.rig(-1));
        x.take(0, 0);
        x.take(1, 1);
        check.notNow("a crawl", x, () -> x.rig(1));
        x.go(0, 1);
        x.go(1, 1);
        x.go(2, 1);
        check.notNow("walking", x, () -> x.rig(1));
        x.pass(5);
        check.notNow("drop 20, length 22", x, () -> x.rig(0));
        check.notNow("has no rope", x, () -> x.rig(2));
        check.same("drop 20, length 23", 1, x.rig(1));
        x.pass(10);
        x.go(0, 2);
        x.pass(8);
        check.notNow("no passage below", x, () -> x.rig(0));
        CaveRelay y = new CaveRelay();
        y.setPassage(0, 1, 5);
        y.addRope(10);
        y.addHelper(100);
        y.take(0, 0);
        check.same("a drop of 1 is a pitch", 0, y.rig(0));
    }

    private static void promise10RigInTime() {
        CaveRelay x = new CaveRelay();
        x.addRope(80);
        x.addRope(80);
        x.addHelper(38);
        x.addHelper(37);
        x.take(0, 0);
        x.take(1, 1);
        Caves.walkDown(x, 2, 1);
        x.pass(18);
        // 23 minutes below, 10 to rig, 5 up
        check.notNow("38 minutes, limit 37", x, () -> x.rig(1));
        check.same("38 minutes, limit 38", 1, x.rig(0));
    }

    private static void promise11TakeOff() {
        CaveRelay x = Caves.riggedPitch(20, 4, 2, 100);
        check.noIndex("takeOff(2)", x, () -> x.takeOff(2));
        check.noIndex("takeOff(-1)", x, () -> x.takeOff(-1));
        check.same("takeOff(1)", 0, x.takeOff(1));
        check.rope("with helper 1", x, 0, 80, 1, 1);
        check.same("has it", 0, x.helper(1, 5));
        check.passage("not rigged", x, 0, 20, 4, NONE, 0, NONE);
        check.same("a pitch that is not rigged", 1, x.value(10));
        check.notNow("not rigged any more", x, () -> x.takeOff(0));
    }

    private static void promise11TakeOffRefused() {
        CaveRelay x = Caves.riggedPitch(20, 4, 3, 100);
        x.addRope(10);
        x.take(1, 1);
        check.notNow("has a rope", x, () -> x.takeOff(1));
        x.go(2, 1);
        check.notNow("one walks down", x, () -> x.takeOff(0));
        x.pass(4);
        check.notNow("stands at the lower end", x, () -> x.takeOff(2));
        x.go(2, 0);
        check.notNow("one walks up", x, () -> x.takeOff(0));
        check.notNow("walking", x, () -> x.takeOff(2));
        x.pass(4);
        check.same("nobody walks", 0, x.takeOff(0));
        CaveRelay y = new CaveRelay();
        y.addHelper(100);
        check.notNow("a crawl", y, () -> y.takeOff(0));
    }

    private static void promise12Carry() {
        CaveRelay x = Caves.crawls(2, 4);
        Caves.addHelpers(x, 5, 100);
        Caves.walkDown(x, 4, 2);
        check.same("carry", 12, x.carry(0b1101));
        check.helper("carrying", x, 0, 100, 2, 1, 1, 12, NONE, 8, 8, 1);
        check.helper("not carrying", x, 1, 100, 2, 0, NONE, 0, NONE, 8, 8, 0);
        check.helper("carrying", x, 3, 100, 2, 1, 1, 12, NONE, 8, 8, 1);
        check.same("from station 2", 2, x.value(4));
        check.same("carried", 1, x.value(5));
        check.same("carries", 1, x.value(9));
        check.same("three walk", 3, x.passage(1, 3));
        check.carried("in the log", x, 0, 8, 2, 0b1101);
        x.pass(11);
        check.helper("nearly there", x, 3, 100, 2, 1, 1, 1, NONE, 30, 19, 1);
        check.same("still from station 2", 2, x.value(4));
        x.pass(1);
        check.helper("there", x, 0, 100, 1, 0, NONE, 0, NONE, 32, 20, 0);
        check.helper("there", x, 2, 100, 1, 0, NONE, 0, NONE, 32, 20, 0);
        check.helper("there", x, 3, 100, 1, 0, NONE, 0, NONE, 32, 20, 0);
        check.same("at station 1", 1, x.value(4));
        check.same("not carried", 0, x.value(5));
        check.same("carry again", 12, x.carry(0b1101));
        x.pass(12);
        check.same("at the surface", 0, x.value(4));
        check.helper("up", x, 3, 100, 0, 0, NONE, 0, NONE, 56, 0, 0);
        check.notNow("lies at the surface", x, () -> x.carry(0b1101));
    }

    private static void promise12CarryRefused() {
        CaveRelay x = Caves.crawls(1, 4);
        Caves.addHelpers(x, 4, 100);
        check.badArgument("nobody", x, () -> x.carry(0));
        check.badArgument("two", x, () -> x.carry(0b1001));
        check.badArgument("no helper 4", x, () -> x.carry(0b10011));
        check.badArgument("all bits", x, () -> x.carry(-1));
        check.badArgument("bit 31", x, () -> x.carry(Integer.MIN_VALUE | 7));
        check.badArgument("bit 6", x, () -> x.carry(0b1000111));
        check.notNow("at another station", x, () -> x.carry(7));
        Caves.walkDown(x, 3, 1);
        check.notNow("one is not there", x, () -> x.carry(0b1111));
        x.go(0, 0);
        check.notNow("one walks", x, () -> x.carry(7));
        x.undo();
        x.addHelper(100);
        x.carry(7);
        x.go(3, 1);
        x.go(4, 1);
        check.notNow("carried already", x, () -> x.carry(7));
        CaveRelay y = Caves.crawls(1, 4);
        Caves.addHelpers(y, 6, 100);
        Caves.walkDown(y, 6, 1);
        check.same("six", 12, y.carry(0b111111));
    }

    private static void promise12CarryTiredOrLate() {
        CaveRelay x = Caves.crawls(1, 10);
        x.addHelper(40);
        x.addHelper(41);
        x.addHelper(41);
        x.addHelper(41);
        Caves.walkDown(x, 4, 1);
        x.pass(1);
        // 11 minutes below and 30 of carrying
        check.notNow("41 minutes, limit 40", x, () -> x.carry(0b0111));
        check.same("41 minutes, limit 41", 30, x.carry(0b1110));
        CaveRelay y = Caves.crawls(1, 15);
        Caves.addHelpers(y, 4, 600);
        Caves.walkDown(y, 4, 1);
        // 15 of tiredness and 90 of effort
        check.notNow("tiredness of 105", y, () -> y.carry(0b0111));
        y.setPassage(0, 0, 14);
        check.same("tiredness of 99", 42, y.carry(0b0111));
        CaveRelay late = Caves.crawls(2, 5);
        late.addHelper(30);
        Caves.addHelpers(late, 3, 600);
        Caves.walkDown(late, 4, 2);
        // 10 minutes below, 15 of carrying, 5 up
        check.same("limit 30, in time", 15, late.carry(0b0111));
        late.undo();
        late.pass(1);
        check.notNow("limit 30, late", late, () -> late.carry(0b0111));
        CaveRelay z = Caves.crawls(1, 16);
        Caves.addHelpers(z, 3, 600);
        Caves.walkDown(z, 3, 1);
        z.setPassage(0, 0, 14);
        check.same("tiredness of 100", 42, z.carry(0b0111));
        CaveRelay tired = Caves.crawls(1, 16);
        Caves.addHelpers(tired, 3, 600);
        Caves.walkDown(tired, 3, 1);
        tired.go(0, 0);
        tired.pass(16);
        tired.go(0, 1);
        tired.pass(16);
        tired.setPassage(0, 0, 14);
        check.notNow("one is too tired", tired, () -> tired.carry(0b0111));
    }

    private static void promise12CarryUpAPitch() {
        CaveRelay x = Caves.riggedPitch(30, 5, 3, 200);
        Caves.walkDown(x, 3, 1);
        check.same("carry", 15, x.carry(7));
        x.pass(14);
        check.same("tired by 2 a minute", 5 + 28, x.helper(1, 6));
        x.pass(1);
        check.same("tired by 2 a minute", 5 + 30, x.helper(1, 6));
        CaveRelay y = Caves.crawls(1, 5);
        Caves.addHelpers(y, 3, 200);
        Caves.walkDown(y, 3, 1);
        y.setPassage(0, 30, 5);
        check.notNow("a pitch that is not rigged", y, () -> y.carry(7));
        y.setPassage(0, 0, 5);
        check.same("a crawl", 15, y.carry(7));
    }

    private static void promise13Send() {
        CaveRelay x = Caves.crawls(3, 2);
        Caves.addHelpers(x, 2, 100);
        check.noIndex("send(2)", x, () -> x.send(2));
        check.noIndex("send(-1)", x, () -> x.send(-1));
        check.same("from the surface", 0, x.send(1));
        check.same("counted at once", 1, x.value(8));
        x.go(0, 1);
        check.notNow("walking", x, () -> x.send(0));
        x.pass(2);
        for (int i = 1; i <= 10; i++) {
            check.same("send", i, x.send(0));
        }
        check.notNow("10 on their way", x, () -> x.send(0));
        check.same("from the surface all the same", 10, x.send(1));
        check.same("two counted", 2, x.value(8));
        check.message("the last one", x, 9, 0, 2, 1);
        check.same("all come", 10, x.pass(1));
        check.same("none on its way", 0, x.value(7));
        check.same("send again", 1, x.send(0));
    }
}
