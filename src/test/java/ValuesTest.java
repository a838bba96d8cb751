/** Promises 15 to 21: the values. */
public final class ValuesTest {
    private static final Checks check = new Checks();
    private static final int NONE = CaveRelay.NONE;

    public static void main(String[] args) {
        promise15Passage();
        promise16Rope();
        promise17Helper();
        promise18Value();
        promise19Message();
        promise20Carried();
        promise21Why();
        promise21WhyTired();
        promise21WhyLate();
        promise21TheFirstReason();
        check.end("ValuesTest");
    }

    private static void promise15Passage() {
        CaveRelay x = Caves.riggedPitch(12, 6, 3, 100);
        check.passage("rigged", x, 0, 12, 6, 0, 0, NONE);
        x.go(0, 1);
        x.pass(6);
        x.go(0, 0);
        x.go(1, 1);
        check.passage("one up, one down", x, 0, 12, 6, 0, 2, NONE);
        check.noIndex("passage(-1)", x, () -> x.passage(-1, 0));
        check.noIndex("passage(1)", x, () -> x.passage(1, 0));
        check.noIndex("passage(1) and what 5", x, () -> x.passage(1, 5));
        check.badArgument("what -1", x, () -> x.passage(0, -1));
        check.badArgument("what 5", x, () -> x.passage(0, 5));
        CaveRelay y = new CaveRelay();
        y.begin(1);
        y.setPassage(0, 12, 6);
        y.addRope(80);
        Caves.addHelpers(y, 2, 100);
        y.take(1, 0);
        y.rig(1);
        check.passage("helper 1 is rigging", y, 0, 12, 6, NONE, 0, 1);
    }

    private static void promise16Rope() {
        CaveRelay x = new CaveRelay();
        x.addRope(33);
        x.addRope(44);
        Caves.addHelpers(x, 2, 100);
        check.rope("lies", x, 1, 44, 0, 0);
        x.take(1, 1);
        check.rope("with a helper", x, 1, 44, 1, 1);
        x.go(1, 1);
        x.pass(5);
        x.rig(1);
        check.rope("with the one who rigs", x, 1, 44, 1, 1);
        x.pass(10);
        check.rope("rigged at passage 1", x, 1, 44, 2, 1);
        check.rope("the other one", x, 0, 33, 0, 0);
        check.noIndex("rope(2)", x, () -> x.rope(2, 0));
        check.noIndex("rope(-1)", x, () -> x.rope(-1, 0));
        check.noIndex("rope(2) and what 3", x, () -> x.rope(2, 3));
        check.badArgument("what -1", x, () -> x.rope(0, -1));
        check.badArgument("what 3", x, () -> x.rope(0, 3));
    }

    private static void promise17Helper() {
        CaveRelay x = new CaveRelay();
        check.noIndex("no helper", x, () -> x.helper(0, 0));
        x.addRope(20);
        x.addHelper(77);
        x.take(0, 0);
        check.helper("stands", x, 0, 77, 0, 0, NONE, 0, 0, 0, 0, 0);
        x.go(0, 1);
        x.pass(2);
        check.helper("walks", x, 0, 77, 0, 1, 1, 3, 0, 2, 2, 0);
        check.noIndex("helper(1)", x, () -> x.helper(1, 0));
        check.noIndex("helper(-1) and what 9", x, () -> x.helper(-1, 9));
        check.badArgument("what -1", x, () -> x.helper(0, -1));
        check.badArgument("what 9", x, () -> x.helper(0, 9));
    }

    private static void promise18Value() {
        CaveRelay x = Caves.crawls(5, 2);
        x.setPassage(4, 9, 2);
        x.addRope(20);
        x.addRope(30);
        Caves.addHelpers(x, 4, 200);
        x.setSilence(12, 34);
        check.values("set", x, 5, 2, 4, 0, 5, 0, 0, 0, 0, 0, 1, 12, 34, 0);
        Caves.walkDown(x, 1, 1);
        x.send(0);
        x.send(1);
        x.go(1, 1);
        check.values("on the way", x, 5, 2, 4, 2, 5, 0, 2, 1, 1, 0, 1, 12, 34, 0);
        check.badArgument("what -1", x, () -> x.value(-1));
        check.badArgument("what 14", x, () -> x.value(14));
    }

    private static void promise19Message() {
        CaveRelay x = Caves.crawls(2, 3);
        Caves.addHelpers(x, 2, 100);
        check.noIndex("no message", x, () -> x.message(0, 0));
        Caves.walkDown(x, 2, 2);
        x.send(1);
        x.pass(1);
        x.send(0);
        check.message("the first", x, 0, 1, 6, 1);
        check.message("the second", x, 1, 0, 7, 2);
        check.noIndex("message(2)", x, () -> x.message(2, 0));
        check.noIndex("message(-1)", x, () -> x.message(-1, 0));
        check.noIndex("message(2) and what 3", x, () -> x.message(2, 3));
        check.badArgument("what -1", x, () -> x.message(0, -1));
        check.badArgument("what 3", x, () -> x.message(0, 3));
    }

    private static void promise20Carried() {
        CaveRelay x = Caves.crawls(1, 1);
        Caves.addHelpers(x, 4, 600);
        check.noIndex("no carry", x, () -> x.carried(0, 0));
        Caves.walkDown(x, 4, 1);
        x.carry(0b1011);
        check.carried("the first", x, 0, 1, 1, 0b1011);
        check.noIndex("carried(1)", x, () -> x.carried(1, 0));
        check.noIndex("carried(-1)", x, () -> x.carried(-1, 0));
        check.noIndex("carried(1) and what 3", x, () -> x.carried(1, 3));
        check.badArgument("what -1", x, () -> x.carried(0, -1));
        check.badArgument("what 3", x, () -> x.carried(0, 3));
        carriedInRelays();
    }

    /** Seven carries are the most: the stretcher does not go down, and begin() empties the log. */
    private static void carriedInRelays() {
        CaveRelay x = Caves.crawls(7, 1);
        Caves.addHelpers(x, 4, 600);
        Caves.walkDown(x, 4, 7);
        for (int station = 7; station > 0; station--) {
            x.carry(station % 2 == 1 ? 0b0111 : 0b1110);
            x.go(station % 2 == 1 ? 3 : 0, station - 1);
            x.pass(3);
        }
        check.same("carries", 7, x.value(9));
        check.same("at the surface", 0, x.value(4));
        for (int i = 0; i < 7; i++) {
            check.carried("the log", x, i, 25 - 3 * i, i + 1, i % 2 == 0 ? 0b0111 : 0b1110);
        }
        check.noIndex("carried(7)", x, () -> x.carried(7, 0));
        x.begin(2);
        check.noIndex("an empty log", x, () -> x.carried(0, 0));
        x.undo();
        check.carried("the log again", x, 6, 7, 7, 0b0111);
    }

    private static void promise21Why() {
        CaveRelay x = new CaveRelay();
        x.addHelper(100);
        check.noIndex("why(1, 0)", x, () -> x.why(1, 0));
        check.noIndex("why(-1, 0)", x, () -> x.why(-1, 0));
        check.same("can", 0, x.why(0, 1));
        check.same("above the surface", 2, x.why(0, -1));
        check.same("stands there", 2, x.why(0, 0));
        check.same("not beside", 2, x.why(0, 2));
        check.same("least", 2, x.why(0, Integer.MIN_VALUE));
        check.same("most", 2, x.why(0, Integer.MAX_VALUE));
        x.go(0, 1);
        check.same("walks", 1, x.why(0, 1));
        x.pass(5);
        check.same("not rigged", 3, x.why(0, 2));
        check.same("can", 0, x.why(0, 0));
        CaveRelay y = Caves.crawls(1, 5);
        y.addHelper(100);
        Caves.walkDown(y, 1, 1);
        check.same("below the lowest one", 2, y.why(0, 2));
    }

    private static void promise21WhyTired() {
        CaveRelay x = Caves.riggedPitch(30, 25, 1, 600);
        x.go(0, 1);
        x.pass(25);
        check.same("25 and 50", 0, x.why(0, 0));
        x.go(0, 0);
        x.pass(25);
        check.same("75 and 25", 0, x.why(0, 1));
        x.go(0, 1);
        x.pass(25);
        check.same("100 and 50", 4, x.why(0, 0));
        CaveRelay steep = Caves.riggedPitch(30, 20, 1, 600);
        steep.go(0, 1);
        steep.pass(20);
        steep.go(0, 0);
        steep.pass(20);
        check.same("down and up", 60, steep.helper(0, 6));
        steep.pass(20);
        steep.go(0, 1);
        steep.pass(20);
        check.same("60 and 40", 0, steep.why(0, 0));
        CaveRelay steeper = Caves.riggedPitch(30, 20, 1, 600);
        steeper.go(0, 1);
        steeper.pass(20);
        steeper.go(0, 0);
        steeper.pass(39);
        steeper.go(0, 1);
        steeper.pass(20);
        check.same("61 and 40", 4, steeper.why(0, 0));
        CaveRelay y = Caves.crawls(1, 25);
        y.addHelper(600);
        for (int i = 0; i < 2; i++) {
            Caves.walkDown(y, 1, 1);
            check.same("can", 0, y.why(0, 0));
            y.go(0, 0);
            y.pass(25);
        }
        check.same("100 and 25", 4, y.why(0, 1));
        y.pass(24);
        check.same("76 and 25", 4, y.why(0, 1));
        y.pass(1);
        check.same("75 and 25", 0, y.why(0, 1));
    }

    private static void promise21WhyLate() {
        CaveRelay x = Caves.crawls(2, 10);
        x.addHelper(40);
        check.same("20 minutes", 0, x.why(0, 1));
        Caves.walkDown(x, 1, 1);
        check.same("10 below, 10 down, 20 up", 0, x.why(0, 2));
        x.pass(1);
        check.same("41 minutes", 5, x.why(0, 2));
        check.same("up it is allowed", 0, x.why(0, 0));
        CaveRelay y = Caves.crawls(1, 16);
        y.addHelper(31);
        check.same("32 minutes", 5, y.why(0, 1));
        y.setPassage(0, 0, 15);
        check.same("30 minutes", 0, y.why(0, 1));
    }

    private static void promise21TheFirstReason() {
        CaveRelay x = Caves.crawls(2, 30);
        x.addHelper(110);
        Caves.walkDown(x, 1, 1);
        x.go(0, 0);
        x.pass(30);
        Caves.walkDown(x, 1, 1);
        x.setPassage(1, 5, 30);
        check.same("no station, ahead of all others", 2, x.why(0, 3));
        check.same("not rigged, ahead of tired and late", 3, x.why(0, 2));
        x.setPassage(1, 0, 30);
        check.same("tired, ahead of late", 4, x.why(0, 2));
        x.setPassage(1, 0, 10);
        check.same("100 of tiredness, not late", 0, x.why(0, 2));
        x.pass(30);
        check.same("110 minutes", 0, x.why(0, 2));
        x.pass(1);
        check.same("late", 5, x.why(0, 2));
        x.setPassage(0, 0, 10);
        x.go(0, 0);
        check.same("walks, ahead of no station", 1, x.why(0, 9));
    }
}
