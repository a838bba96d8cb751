/** Edges of promises 15 to 21. */
final class ValueEdges {
    private static final int NONE = CaveRelay.NONE;
    private static final int LEAST = Integer.MIN_VALUE;
    private static final int MOST = Integer.MAX_VALUE;

    private ValueEdges() {
    }

    static void all(Edges e) {
        promises15And16(e);
        promises17And18(e);
        promises19To21(e);
    }

    private static void promises15And16(Edges e) {
        e.promise(15, "Returns something about a passage.", ValueEdges::passageUntouched);
        e.promise(15, "`passage`: number of a passage", ValueEdges::passageFirstAndLast);
        e.promise(15, "0 its drop, 1 its minutes", ValueEdges::passageDropAndMinutes);
        e.promise(15, "2 the rope that is rigged there (NONE without one)", ValueEdges::passageRope);
        e.promise(15, "3 how many helpers walk through it", ValueEdges::passageWalkers);
        e.promise(15, "4 the helper who is rigging it (NONE without one)", ValueEdges::passageRigger);
        e.promise(15, "Returns that value.", ValueEdges::passageAllOfIt);
        e.promise(15, "if there is no such passage", ValueEdges::passageNoSuch);
        e.promise(15, "if what is out of range", ValueEdges::passageWhat);
        e.promise(16, "Returns something about a rope.", ValueEdges::ropeUntouched);
        e.promise(16, "`rope`: number of a rope", ValueEdges::ropeFirstAndLast);
        e.promise(16, "0 its length, 1 0 it lies, 1 it is with a helper, 2 it is rigged", ValueEdges::ropeState);
        e.promise(16, "2 the station, the helper or the passage", ValueEdges::ropePlace);
        e.promise(16, "Returns that value.", ValueEdges::ropeAllOfIt);
        e.promise(16, "if there is no such rope", ValueEdges::ropeNoSuch);
        e.promise(16, "if what is out of range", ValueEdges::ropeWhat);
    }

    private static void promises17And18(Edges e) {
        e.promise(17, "Returns something about a helper.", ValueEdges::helperUntouched);
        e.promise(17, "`helper`: number of a helper", ValueEdges::helperFirstAndLast);
        e.promise(17, "1 the station at which the helper stands or rigs, or from which the helper walks",
                ValueEdges::helperStation);
        e.promise(17, "3 the station to which the helper walks (NONE if not)", ValueEdges::helperGoal);
        e.promise(17, "4 the minutes to go (0 if standing)", ValueEdges::helperToGo);
        e.promise(17, "5 the rope (NONE without one)", ValueEdges::helperRope);
        e.promise(17, "8 1 if carrying, otherwise 0", ValueEdges::helperCarrying);
        e.promise(17, "Returns that value.", ValueEdges::helperAllOfIt);
        e.promise(17, "if there is no such helper", ValueEdges::helperNoSuch);
        e.promise(17, "if what is out of range", ValueEdges::helperWhat);
        e.promise(18, "Returns a number.", ValueEdges::valueUntouched);
        e.promise(18, "0 the passages, 1 the ropes, 2 the helpers, 3 the time", ValueEdges::valueCounts);
        e.promise(18, "4 the station of the stretcher (that from which it is carried), 5 1 if it is carried",
                ValueEdges::valueStretcher);
        e.promise(18, "6 how many helpers are below", ValueEdges::valueBelow);
        e.promise(18, "7 the messages on their way, 8 those that came to the surface so far",
                ValueEdges::valueMessages);
        e.promise(18, "9 the carries so far", ValueEdges::valueCarries);
        e.promise(18, "10 the pitches that are not rigged", ValueEdges::valuePitches);
        e.promise(18, "11 the first minute of the silence, 12 its last one (without it)", ValueEdges::valueSilence);
        e.promise(18, "13 the minutes too late of all helpers so far", ValueEdges::valueLate);
        e.promise(18, "Returns that number.", ValueEdges::valueAllOfIt);
        e.promise(18, "if what is out of range", ValueEdges::valueWhat);
    }

    private static void promises19To21(Edges e) {
        e.promise(19, "Returns something about a message on its way.", ValueEdges::messageUntouched);
        e.promise(19, "0 for the one that was sent first, and so on", ValueEdges::messageOrder);
        e.promise(19, "0 the helper who sent it, 1 the time when it was sent, 2 the station where it is",
                ValueEdges::messageParts);
        e.promise(19, "Returns that value.", ValueEdges::messageAllOfIt);
        e.promise(19, "if there are not so many", ValueEdges::messageNoSuch);
        e.promise(19, "if what is out of range", ValueEdges::messageWhat);
        e.promise(20, "Returns something about a carry of the log.", ValueEdges::carriedUntouched);
        e.promise(20, "0 for the latest one, and so on", ValueEdges::carriedOrder);
        e.promise(20, "0 its time, 1 the station from which it goes, 2 the set of helpers", ValueEdges::carriedParts);
        e.promise(20, "Returns that value.", ValueEdges::carriedAllOfIt);
        e.promise(20, "if not so many are kept", ValueEdges::carriedNoSuch);
        e.promise(20, "if what is out of range", ValueEdges::carriedWhat);
        e.promise(21, "Tells why a helper cannot go to a station.", ValueEdges::whyUntouched);
        e.promise(21, "`helper`: number of a helper", ValueEdges::whyFirstAndLast);
        e.promise(21, "`station`: any number", ValueEdges::whyAnyNumber);
        e.promise(21, "0 if the helper can", ValueEdges::whyNoReason);
        e.promise(21, "if there is no such helper", ValueEdges::whyNoHelper);
    }

    // ---- promise 15

    private static void passageUntouched(Checks check) {
        Undoing.never(check, "passage", Caves::busy, x -> x.passage(0, 3));
    }

    private static void passageFirstAndLast(Checks check) {
        CaveRelay x = Caves.begun(7);
        x.setPassage(0, 1, 2);
        x.setPassage(6, 3, 4);
        check.passage("the first", x, 0, 1, 2, NONE, 0, NONE);
        check.passage("the last", x, 6, 3, 4, NONE, 0, NONE);
    }

    private static void passageDropAndMinutes(Checks check) {
        CaveRelay x = Caves.riggedPitch(60, 30, 1, 600);
        check.passage("most", x, 0, 60, 30, 0, 0, NONE);
        CaveRelay y = Caves.crawls(1, 1);
        check.passage("least", y, 0, 0, 1, NONE, 0, NONE);
    }

    private static void passageRope(Checks check) {
        CaveRelay x = Caves.begun(1);
        x.setPassage(0, 60, 1);
        for (int i = 0; i < 8; i++) {
            x.addRope(73 + i);
        }
        Caves.addHelpers(x, 1, 600);
        check.same("none", NONE, x.passage(0, 2));
        x.take(0, 7);
        x.rig(0);
        check.same("none yet", NONE, x.passage(0, 2));
        x.pass(10);
        check.same("the last rope", 7, x.passage(0, 2));
        x.takeOff(0);
        check.same("none any more", NONE, x.passage(0, 2));
        x.lay(0);
        x.take(0, 0);
        x.rig(0);
        x.pass(10);
        check.same("the first rope", 0, x.passage(0, 2));
    }

    private static void passageWalkers(Checks check) {
        CaveRelay x = Caves.crawls(2, 3);
        Caves.addHelpers(x, 6, 600);
        check.same("nobody", 0, x.passage(0, 3));
        for (int h = 0; h < 6; h++) {
            x.go(h, 1);
            check.same("down", h + 1, x.passage(0, 3));
        }
        x.pass(2);
        check.same("all six", 6, x.passage(0, 3));
        check.same("nobody in the next one", 0, x.passage(1, 3));
        x.pass(1);
        check.same("nobody", 0, x.passage(0, 3));
        x.go(0, 0);
        x.go(1, 2);
        check.same("one up", 1, x.passage(0, 3));
        check.same("one down", 1, x.passage(1, 3));
        CaveRelay carried = Caves.atStretcher(2, 1, 6);
        carried.carry(0b111111);
        check.same("six carry", 6, carried.passage(1, 3));
        check.same("nobody above", 0, carried.passage(0, 3));
    }

    private static void passageRigger(Checks check) {
        CaveRelay x = Caves.rigging(2, 1);
        check.same("helper 0", 0, x.passage(1, 4));
        check.same("nobody", NONE, x.passage(0, 4));
        x.pass(9);
        check.same("still", 0, x.passage(1, 4));
        x.pass(1);
        check.same("has rigged", NONE, x.passage(1, 4));
        CaveRelay y = Caves.riggedPitch(20, 2, 6, 100);
        y.takeOff(5);
        y.rig(5);
        check.same("helper 5", 5, y.passage(0, 4));
    }

    private static void passageAllOfIt(Checks check) {
        CaveRelay x = Caves.riggedPitch(12, 6, 3, 100);
        x.go(1, 1);
        x.go(2, 1);
        check.passage("all of it", x, 0, 12, 6, 0, 2, NONE);
    }

    private static void passageNoSuch(Checks check) {
        for (int passage : new int[] {LEAST, -1, 4, 6, 7, MOST}) {
            for (int what : new int[] {-1, 0, 4, 5}) {
                check.noIndex("passage(" + passage + ", " + what + ")", CaveRelay::new,
                        x -> x.passage(passage, what));
            }
        }
        check.noIndex("passage 1 of 1", () -> Caves.begun(1), x -> x.passage(1, 0));
        check.noIndex("passage 7 of 7", () -> Caves.begun(7), x -> x.passage(7, 0));
    }

    private static void passageWhat(Checks check) {
        for (int what : new int[] {LEAST, -1, 5, 6, MOST}) {
            check.badArgument("what " + what, Caves::busy, x -> x.passage(1, what));
        }
        for (int what = 0; what <= 4; what++) {
            check.hold("what " + what, new CaveRelay().passage(1, what) >= NONE);
        }
    }

    // ---- promise 16

    private static void ropeUntouched(Checks check) {
        Undoing.never(check, "rope", Caves::busy, x -> x.rope(1, 2));
    }

    private static void ropeFirstAndLast(Checks check) {
        CaveRelay x = Caves.ropes(8);
        check.rope("the first", x, 0, 20, 0, 0);
        check.rope("the last", x, 7, 27, 0, 0);
    }

    private static void ropeState(Checks check) {
        CaveRelay x = Caves.aboveAPitch(2, 1);
        check.same("its length", 80, x.rope(0, 0));
        check.same("with a helper", 1, x.rope(0, 1));
        x.rig(0);
        x.pass(9);
        check.same("still", 1, x.rope(0, 1));
        x.pass(1);
        check.same("rigged", 2, x.rope(0, 1));
        x.takeOff(0);
        check.same("with a helper again", 1, x.rope(0, 1));
        x.lay(0);
        check.same("lies", 0, x.rope(0, 1));
    }

    private static void ropePlace(Checks check) {
        CaveRelay x = Caves.crawls(7, 1);
        x.addRope(80);
        Caves.addHelpers(x, 6, 600);
        check.same("the surface", 0, x.rope(0, 2));
        x.take(5, 0);
        check.same("the last helper", 5, x.rope(0, 2));
        Caves.walkDownFrom(x, 5, 0, 6);
        check.same("the helper, wherever", 5, x.rope(0, 2));
        x.setPassage(6, 9, 1);
        x.rig(5);
        x.pass(10);
        check.same("the last passage", 6, x.rope(0, 2));
        x.takeOff(5);
        x.setPassage(6, 0, 1);
        Caves.walkDownFrom(x, 5, 6, 7);
        x.lay(5);
        check.same("the lowest station", 7, x.rope(0, 2));
    }

    private static void ropeAllOfIt(Checks check) {
        CaveRelay x = Caves.riggedPitch(9, 1, 2, 100);
        x.addRope(10);
        x.addRope(11);
        x.take(1, 2);
        check.rope("rigged", x, 0, 80, 2, 0);
        check.rope("lies", x, 1, 10, 0, 0);
        check.rope("with helper 1", x, 2, 11, 1, 1);
    }

    private static void ropeNoSuch(Checks check) {
        for (int rope : new int[] {LEAST, -1, 3, 8, MOST}) {
            for (int what : new int[] {-1, 0, 2, 3}) {
                check.noIndex("rope(" + rope + ", " + what + ")", () -> Caves.ropes(3), x -> x.rope(rope, what));
            }
        }
        check.noIndex("no ropes", CaveRelay::new, x -> x.rope(0, 0));
        check.noIndex("rope 8 of 8", () -> Caves.ropes(8), x -> x.rope(8, 0));
    }

    private static void ropeWhat(Checks check) {
        for (int what : new int[] {LEAST, -1, 3, 4, MOST}) {
            check.badArgument("what " + what, () -> Caves.ropes(3), x -> x.rope(2, what));
        }
        for (int what = 0; what <= 2; what++) {
            check.hold("what " + what, Caves.ropes(3).rope(2, what) >= 0);
        }
    }

    // ---- promise 17

    private static void helperUntouched(Checks check) {
        Undoing.never(check, "helper", Caves::busy, x -> x.helper(5, 8));
    }

    private static void helperFirstAndLast(Checks check) {
        CaveRelay x = Caves.helpers(6);
        check.helper("the first", x, 0, 100, 0, 0, NONE, 0, NONE, 0, 0, 0);
        check.helper("the last", x, 5, 105, 0, 0, NONE, 0, NONE, 0, 0, 0);
    }

    private static void helperStation(Checks check) {
        check.same("stands at the surface", 0, Caves.standing(7, 0).helper(0, 1));
        check.same("stands at the lowest station", 7, Caves.standing(7, 7).helper(0, 1));
        check.same("rigs", 6, Caves.rigging(7, 6).helper(0, 1));
        check.same("walks down", 3, Caves.walking(7, 3, 4).helper(0, 1));
        check.same("walks up", 3, Caves.walking(7, 3, 2).helper(0, 1));
        check.same("walks up, nearly there", 3, Caves.later(Caves.walking(7, 3, 2), 1).helper(0, 1));
    }

    private static void helperGoal(Checks check) {
        check.same("stands", NONE, Caves.standing(7, 3).helper(0, 3));
        check.same("rigs", NONE, Caves.rigging(7, 3).helper(0, 3));
        check.same("walks to the surface", 0, Caves.walking(7, 1, 0).helper(0, 3));
        check.same("walks to the lowest station", 7, Caves.walking(7, 6, 7).helper(0, 3));
        check.same("carries", 0, Caves.carrying().helper(1, 3));
        check.same("has come", NONE, Caves.later(Caves.walking(7, 1, 0), 2).helper(0, 3));
    }

    private static void helperToGo(Checks check) {
        check.same("stands", 0, Caves.standing(7, 3).helper(0, 4));
        check.same("rigs", 10, Caves.rigging(7, 3).helper(0, 4));
        check.same("has rigged", 0, Caves.later(Caves.rigging(7, 3), 10).helper(0, 4));
        check.same("walks", 2, Caves.walking(7, 3, 4).helper(0, 4));
        check.same("the last one", 1, Caves.later(Caves.walking(7, 3, 4), 1).helper(0, 4));
        check.same("has come", 0, Caves.later(Caves.walking(7, 3, 4), 2).helper(0, 4));
        check.same("carries", 6, Caves.carrying().helper(0, 4));
    }

    private static void helperRope(Checks check) {
        CaveRelay x = Caves.ropes(8);
        Caves.addHelpers(x, 1, 600);
        check.same("none", NONE, x.helper(0, 5));
        x.take(0, 0);
        check.same("the first", 0, x.helper(0, 5));
        x.lay(0);
        check.same("none again", NONE, x.helper(0, 5));
        x.take(0, 7);
        check.same("the last", 7, x.helper(0, 5));
        check.same("rigs", 0, Caves.later(Caves.rigging(2, 1), 9).helper(0, 5));
        check.same("has rigged", NONE, Caves.later(Caves.rigging(2, 1), 10).helper(0, 5));
    }

    private static void helperCarrying(Checks check) {
        CaveRelay x = Caves.atStretcher(1, 2, 4);
        check.same("stands", 0, x.helper(0, 8));
        x.carry(0b1011);
        x.go(2, 0);
        check.same("carries", 1, x.helper(0, 8));
        check.same("walks", 0, x.helper(2, 8));
        x.pass(5);
        check.same("still", 1, x.helper(3, 8));
        x.pass(1);
        check.same("not any more", 0, x.helper(0, 8));
        check.same("not any more", 0, x.helper(3, 8));
    }

    private static void helperAllOfIt(Checks check) {
        CaveRelay x = Caves.atStretcher(1, 2, 5);
        x.addRope(10);
        x.go(4, 0);
        x.pass(2);
        x.take(4, 0);
        x.carry(0b0111);
        x.pass(1);
        check.helper("carries", x, 2, 600, 1, 1, 0, 5, NONE, 4, 5, 1);
        check.helper("stands below", x, 3, 600, 1, 0, NONE, 0, NONE, 2, 5, 0);
        check.helper("stands at the surface", x, 4, 600, 0, 0, NONE, 0, 0, 3, 0, 0);
    }

    private static void helperNoSuch(Checks check) {
        for (int helper : new int[] {LEAST, -1, 3, 6, MOST}) {
            for (int what : new int[] {-1, 0, 8, 9}) {
                check.noIndex("helper(" + helper + ", " + what + ")", () -> Caves.helpers(3),
                        x -> x.helper(helper, what));
            }
        }
        check.noIndex("no helpers", CaveRelay::new, x -> x.helper(0, 0));
        check.noIndex("helper 6 of 6", () -> Caves.helpers(6), x -> x.helper(6, 0));
    }

    private static void helperWhat(Checks check) {
        for (int what : new int[] {LEAST, -1, 9, 10, MOST}) {
            check.badArgument("what " + what, () -> Caves.helpers(3), x -> x.helper(2, what));
        }
        for (int what = 0; what <= 8; what++) {
            check.hold("what " + what, Caves.helpers(3).helper(2, what) >= NONE);
        }
    }

    // ---- promise 18

    private static void valueUntouched(Checks check) {
        Undoing.never(check, "value", Caves::busy, x -> x.value(13));
    }

    private static void valueCounts(Checks check) {
        CaveRelay x = Caves.begun(7);
        check.values("none", x, 7, 0, 0, 0);
        for (int i = 0; i < 8; i++) {
            x.addRope(10);
        }
        Caves.addHelpers(x, 6, 600);
        x.pass(600);
        check.values("most", x, 7, 8, 6, 600);
        check.same("least", 1, Caves.begun(1).value(0));
        check.same("the end of time", 100000, Caves.atTime(100000).value(3));
    }

    private static void valueStretcher(Checks check) {
        CaveRelay x = Caves.atStretcher(7, 1, 3);
        check.values("at the lowest station", x, 7, 0, 3, 7, 7, 0);
        x.carry(7);
        check.values("from there", x, 7, 0, 3, 7, 7, 1);
        x.pass(2);
        check.values("still", x, 7, 0, 3, 9, 7, 1);
        x.pass(1);
        check.values("above", x, 7, 0, 3, 10, 6, 0);
    }

    private static void valueBelow(Checks check) {
        CaveRelay x = Caves.crawls(2, 3);
        Caves.addHelpers(x, 6, 600);
        check.same("nobody", 0, x.value(6));
        for (int h = 0; h < 6; h++) {
            x.go(h, 1);
            check.same("one more", h + 1, x.value(6));
        }
        x.pass(3);
        check.same("all six", 6, x.value(6));
        x.go(0, 0);
        x.pass(2);
        check.same("still", 6, x.value(6));
        x.pass(1);
        check.same("one is up", 5, x.value(6));
    }

    private static void valueMessages(Checks check) {
        CaveRelay x = Caves.standing(2, 2);
        x.addHelper(600);
        check.values("none", x, 2, 0, 2, 4, 2, 0, 1, 0, 0);
        for (int i = 0; i < 10; i++) {
            x.send(0);
        }
        x.send(1);
        check.values("ten, and one that is there", x, 2, 0, 2, 4, 2, 0, 1, 10, 1);
        x.pass(1);
        check.values("on their way", x, 2, 0, 2, 5, 2, 0, 1, 10, 1);
        x.pass(1);
        check.values("all are there", x, 2, 0, 2, 6, 2, 0, 1, 0, 11);
    }

    private static void valueCarries(Checks check) {
        CaveRelay x = Caves.atStretcher(7, 1, 3);
        check.same("none", 0, x.value(9));
        for (int i = 1; i <= 7; i++) {
            x.carry(7);
            check.same("from their beginning", i, x.value(9));
            x.pass(3);
            check.same("carries", i, x.value(9));
        }
    }

    private static void valuePitches(Checks check) {
        CaveRelay x = Caves.crawls(7, 1);
        check.same("none", 0, x.value(10));
        for (int p = 0; p < 7; p++) {
            x.setPassage(p, 1 + p, 1);
            check.same("one more", p + 1, x.value(10));
        }
        x.addRope(80);
        x.addHelper(600);
        x.take(0, 0);
        x.rig(0);
        check.same("not rigged yet", 7, x.value(10));
        x.pass(10);
        check.same("rigged", 6, x.value(10));
        x.takeOff(0);
        check.same("not rigged any more", 7, x.value(10));
    }

    private static void valueSilence(Checks check) {
        CaveRelay x = new CaveRelay();
        check.same("initially", 0, x.value(11));
        check.same("initially", 0, x.value(12));
        x.setSilence(99999, 100000);
        check.same("first", 99999, x.value(11));
        check.same("last", 100000, x.value(12));
    }

    private static void valueLate(Checks check) {
        CaveRelay x = Caves.crawls(1, 5);
        Caves.addHelpers(x, 6, 30);
        Caves.walkDown(x, 6, 1);
        x.setPassage(0, 9, 5);
        x.pass(25);
        check.same("none", 0, x.value(13));
        x.pass(1);
        check.same("one of each", 6, x.value(13));
        x.pass(600);
        check.same("one of each and minute", 3606, x.value(13));
    }

    private static void valueAllOfIt(Checks check) {
        CaveRelay x = Caves.busy();
        check.values("busy", x, 2, 2, 6, 41, 1, 1, 5, 2, 1, 2, 1, 30, 500, 11);
    }

    private static void valueWhat(Checks check) {
        for (int what : new int[] {LEAST, -1, 14, 15, MOST}) {
            check.badArgument("what " + what, Caves::busy, x -> x.value(what));
        }
        for (int what = 0; what <= 13; what++) {
            check.hold("what " + what, new CaveRelay().value(what) >= 0);
        }
    }

    // ---- promise 19

    private static void messageUntouched(Checks check) {
        Undoing.never(check, "message", Caves::busy, x -> x.message(1, 2));
    }

    private static CaveRelay tenMessages() {
        CaveRelay x = Caves.atStretcher(7, 1, 6);
        x.setSilence(0, 1000);
        for (int i = 0; i < 10; i++) {
            x.send((i * 5 + 5) % 6);
            x.pass(1);
        }
        return x;
    }

    private static void messageOrder(Checks check) {
        CaveRelay x = tenMessages();
        for (int i = 0; i < 10; i++) {
            check.message("of ten", x, i, (i * 5 + 5) % 6, 7 + i, 7);
        }
        CaveRelay y = Caves.crawls(2, 1);
        Caves.addHelpers(y, 2, 600);
        Caves.walkDown(y, 2, 1);
        Caves.walkDownFrom(y, 1, 1, 2);
        y.send(1);
        y.send(0);
        check.message("sent first", y, 0, 1, 2, 2);
        check.message("sent second, and nearer", y, 1, 0, 2, 1);
        y.pass(1);
        check.message("the second has come, and the first is left", y, 0, 1, 2, 1);
    }

    private static void messageParts(Checks check) {
        CaveRelay x = Caves.atStretcher(7, 1, 6);
        x.send(5);
        check.message("just sent", x, 0, 5, 7, 7);
        x.pass(6);
        check.message("the time stays", x, 0, 5, 7, 1);
        x.go(5, 6);
        check.message("also when its helper goes", x, 0, 5, 7, 1);
    }

    private static void messageAllOfIt(Checks check) {
        CaveRelay x = Caves.busy();
        check.message("the first", x, 0, 3, 40, 2);
        check.message("the second", x, 1, 0, 40, 1);
    }

    private static void messageNoSuch(Checks check) {
        check.noIndex("none", CaveRelay::new, x -> x.message(0, 0));
        for (int index : new int[] {LEAST, -1, 2, 9, MOST}) {
            for (int what : new int[] {-1, 0, 2, 3}) {
                check.noIndex("message(" + index + ", " + what + ")", Caves::busy, x -> x.message(index, what));
            }
        }
        check.noIndex("message 10 of 10", ValueEdges::tenMessages, x -> x.message(10, 0));
        check.noIndex("it has come", () -> {
            CaveRelay x = Caves.standing(1, 1);
            x.send(0);
            x.pass(1);
            return x;
        }, x -> x.message(0, 0));
        check.noIndex("it was there at once", () -> {
            CaveRelay x = Caves.standing(1, 0);
            x.send(0);
            return x;
        }, x -> x.message(0, 0));
    }

    private static void messageWhat(Checks check) {
        for (int what : new int[] {LEAST, -1, 3, 4, MOST}) {
            check.badArgument("what " + what, Caves::busy, x -> x.message(1, what));
        }
        for (int what = 0; what <= 2; what++) {
            check.hold("what " + what, Caves.busy().message(1, what) >= 0);
        }
    }

    // ---- promise 20

    private static void carriedUntouched(Checks check) {
        Undoing.never(check, "carried", Caves::busy, x -> x.carried(1, 2));
    }

    private static void carriedOrder(Checks check) {
        CaveRelay x = Caves.atStretcher(7, 1, 3);
        for (int i = 0; i < 7; i++) {
            x.carry(7);
            check.carried("the latest", x, 0, 7 + 3 * i, 7 - i, 7);
            check.carried("the first", x, i, 7, 7, 7);
            x.pass(3);
        }
    }

    private static void carriedParts(Checks check) {
        CaveRelay x = Caves.atStretcher(1, 1, 6);
        x.pass(100);
        x.carry(0b111111);
        check.carried("six", x, 0, 101, 1, 0b111111);
        x.pass(3);
        check.carried("six", x, 0, 101, 1, 0b111111);
    }

    private static void carriedAllOfIt(Checks check) {
        CaveRelay x = Caves.busy();
        check.carried("the latest", x, 0, 40, 1, 7);
        check.carried("the first", x, 1, 4, 2, 7);
    }

    private static void carriedNoSuch(Checks check) {
        check.noIndex("none", CaveRelay::new, x -> x.carried(0, 0));
        for (int index : new int[] {LEAST, -1, 2, 11, 12, MOST}) {
            for (int what : new int[] {-1, 0, 2, 3}) {
                check.noIndex("carried(" + index + ", " + what + ")", Caves::busy, x -> x.carried(index, what));
            }
        }
    }

    private static void carriedWhat(Checks check) {
        for (int what : new int[] {LEAST, -1, 3, 4, MOST}) {
            check.badArgument("what " + what, Caves::busy, x -> x.carried(1, what));
        }
        for (int what = 0; what <= 2; what++) {
            check.hold("what " + what, Caves.busy().carried(1, what) >= 0);
        }
    }

    // ---- promise 21

    private static void whyUntouched(Checks check) {
        Undoing.never(check, "why", () -> Caves.standing(3, 1), x -> x.why(0, 2));
    }

    private static void whyFirstAndLast(Checks check) {
        CaveRelay x = Caves.crawls(1, 20);
        for (int h = 0; h < 6; h++) {
            x.addHelper(h == 0 || h == 5 ? 30 : 600);
        }
        for (int h = 0; h < 6; h++) {
            check.same("helper " + h, h == 0 || h == 5 ? 5 : 0, x.why(h, 1));
        }
    }

    private static void whyAnyNumber(Checks check) {
        for (int far : new int[] {LEAST, LEAST + 1, -100, -1, 9, 100, MOST - 1, MOST}) {
            check.same("from 0 to " + far, 2, Caves.standing(7, 0).why(0, far));
            check.same("from 7 to " + far, 2, Caves.standing(7, 7).why(0, far));
            check.same("walking, to " + far, 1, Caves.walking(7, 3, 4).why(0, far));
        }
    }

    private static void whyNoReason(Checks check) {
        CaveRelay x = Caves.standing(7, 6);
        check.same("up", 0, x.why(0, 5));
        check.same("down to the lowest one", 0, x.why(0, 7));
        check.same("up to the surface", 0, Caves.standing(7, 1).why(0, 0));
        check.same("from the surface", 0, Caves.standing(7, 0).why(0, 1));
        check.same("and it goes", 2, x.go(0, 7));
    }

    private static void whyNoHelper(Checks check) {
        for (int helper : new int[] {LEAST, -1, 3, 6, MOST}) {
            for (int station : new int[] {LEAST, -1, 0, 1, MOST}) {
                check.noIndex("why(" + helper + ", " + station + ")", () -> Caves.helpers(3),
                        x -> x.why(helper, station));
            }
        }
        check.noIndex("no helpers", CaveRelay::new, x -> x.why(0, 1));
        check.noIndex("helper 6 of 6", () -> Caves.helpers(6), x -> x.why(6, 1));
    }
}
