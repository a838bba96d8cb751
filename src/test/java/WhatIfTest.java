/** Promises 22 to 28: what if. */
public final class WhatIfTest {
    private static final Checks check = new Checks();
    private static final int NONE = CaveRelay.NONE;

    public static void main(String[] args) {
        promise22MinutesUp();
        promise23Spare();
        promise24BestRope();
        promise25CarryMinutes();
        promise26Team();
        promise26TeamTiredOrLate();
        promise27Reach();
        promise27ReachInSilence();
        promise28MeanTiredness();
        check.end("WhatIfTest");
    }

    private static void promise22MinutesUp() {
        CaveRelay x = Caves.crawls(3, 4);
        x.setPassage(1, 0, 7);
        Caves.addHelpers(x, 3, 100);
        check.noIndex("minutesUp(3)", x, () -> x.minutesUp(3));
        check.noIndex("minutesUp(-1)", x, () -> x.minutesUp(-1));
        check.same("at the surface", 0, x.minutesUp(0));
        Caves.walkDown(x, 2, 2);
        check.same("4 and 7", 11, x.minutesUp(0));
        x.setPassage(0, 1, 5);
        check.same("a pitch in the way", NONE, x.minutesUp(0));
        x.setPassage(2, 1, 5);
        x.setPassage(0, 0, 5);
        check.same("a pitch that is not in the way", 12, x.minutesUp(0));
        x.go(0, 1);
        check.same("walks", NONE, x.minutesUp(0));
        CaveRelay y = Caves.riggedPitch(20, 6, 2, 100);
        Caves.walkDown(y, 1, 1);
        check.same("up a rigged pitch", 6, y.minutesUp(0));
        y.takeOff(1);
        y.rig(1);
        check.same("not rigged yet", NONE, y.minutesUp(0));
        check.same("one who rigs", NONE, y.minutesUp(1));
    }

    private static void promise23Spare() {
        CaveRelay x = Caves.crawls(2, 10);
        x.addHelper(50);
        check.noIndex("spare(1)", x, () -> x.spare(1));
        check.noIndex("spare(-1)", x, () -> x.spare(-1));
        check.same("at the surface", NONE, x.spare(0));
        x.go(0, 1);
        check.same("walks", NONE, x.spare(0));
        x.pass(10);
        check.same("50 without 10 and 10", 30, x.spare(0));
        x.go(0, 2);
        x.pass(10);
        x.pass(9);
        check.same("50 without 29 and 20", 1, x.spare(0));
        x.setPassage(1, 0, 12);
        check.same("fewer than 0", 0, x.spare(0));
        x.setPassage(1, 1, 10);
        check.same("a pitch in the way", NONE, x.spare(0));
        x.pass(1);
        x.setPassage(1, 0, 10);
        check.same("none left", 0, x.spare(0));
    }

    private static void promise24BestRope() {
        CaveRelay x = new CaveRelay();
        check.noIndex("bestRope(4)", x, () -> x.bestRope(4));
        check.noIndex("bestRope(-1)", x, () -> x.bestRope(-1));
        check.same("no ropes", NONE, x.bestRope(1));
        x.addRope(22);
        check.same("too short", NONE, x.bestRope(1));
        x.addRope(40);
        x.addRope(23);
        x.addRope(23);
        x.addRope(38);
        check.same("the lowest one of two", 2, x.bestRope(1));
        check.same("drop 35", 4, x.bestRope(3));
        check.same("a crawl", NONE, x.bestRope(0));
        x.addHelper(100);
        x.take(0, 2);
        check.same("with a helper", 2, x.bestRope(1));
        x.go(0, 1);
        x.pass(5);
        x.rig(0);
        check.same("with the one who rigs", 2, x.bestRope(1));
        x.pass(10);
        check.same("rigged", 3, x.bestRope(1));
        x.setPassage(3, 60, 1);
        check.same("none is long enough", NONE, x.bestRope(3));
        x.addRope(63);
        check.same("60 and 3", 5, x.bestRope(3));
        x.setPassage(2, 1, 6);
        check.same("a drop of 1, and rope 0", 0, x.bestRope(2));
    }

    private static void promise25CarryMinutes() {
        CaveRelay x = Caves.crawls(2, 4);
        x.setPassage(1, 0, 7);
        Caves.addHelpers(x, 3, 100);
        check.same("three times 11", 33, x.carryMinutes());
        x.setPassage(0, 1, 4);
        check.same("a pitch in the way", NONE, x.carryMinutes());
        x.setPassage(0, 0, 4);
        Caves.walkDown(x, 3, 2);
        x.carry(7);
        check.same("carried", NONE, x.carryMinutes());
        x.pass(21);
        check.same("three times 4", 12, x.carryMinutes());
        x.setPassage(1, 9, 7);
        check.same("a pitch below", 12, x.carryMinutes());
        x.carry(7);
        x.pass(12);
        check.same("at the surface", 0, x.carryMinutes());
        CaveRelay y = Caves.riggedPitch(20, 3, 1, 100);
        check.same("up a rigged pitch", 9, y.carryMinutes());
    }

    private static void promise26Team() {
        CaveRelay x = Caves.crawls(1, 5);
        Caves.addHelpers(x, 5, 100);
        check.same("nobody is there", 0, x.team());
        Caves.walkDown(x, 4, 1);
        check.same("four are", 0b1111, x.team());
        x.go(1, 0);
        check.same("one walks", 0b1101, x.team());
        x.carry(0b1101);
        check.same("carried", 0, x.team());
        x.undo();
        x.pass(5);
        x.setPassage(0, 9, 5);
        check.same("a pitch that is not rigged", 0, x.team());
        x.setPassage(0, 0, 5);
        x.carry(0b1101);
        x.pass(15);
        check.same("at the surface", 0, x.team());
        CaveRelay y = Caves.crawls(2, 5);
        Caves.addHelpers(y, 2, 100);
        Caves.walkDown(y, 2, 2);
        y.go(1, 1);
        y.pass(5);
        check.same("one alone", 0b01, y.team());
        CaveRelay z = Caves.riggedPitch(20, 5, 2, 100);
        Caves.walkDown(z, 2, 1);
        check.same("below a rigged pitch", 0b11, z.team());
    }

    private static void promise26TeamTiredOrLate() {
        CaveRelay x = Caves.crawls(1, 10);
        x.addHelper(40);
        x.addHelper(41);
        x.addHelper(600);
        Caves.walkDown(x, 3, 1);
        check.same("10 below and 30", 0b111, x.team());
        x.pass(1);
        check.same("41 minutes, limit 40", 0b110, x.team());
        x.pass(1);
        check.same("42 minutes, limit 41", 0b100, x.team());
        CaveRelay deep = Caves.crawls(2, 5);
        deep.addHelper(30);
        deep.addHelper(31);
        Caves.walkDown(deep, 2, 2);
        check.same("10 below, 15 and 5 up", 0b11, deep.team());
        deep.pass(1);
        check.same("31 minutes, limit 30", 0b10, deep.team());
        CaveRelay y = Caves.crawls(1, 10);
        Caves.addHelpers(y, 2, 600);
        Caves.walkDown(y, 1, 1);
        y.go(0, 0);
        y.pass(10);
        Caves.walkDown(y, 2, 1);
        y.setPassage(0, 0, 15);
        // of tiredness 30 and 10, and 90 of effort
        check.same("120 and 100", 0b10, y.team());
        y.setPassage(0, 0, 12);
        check.same("102 and 82", 0b10, y.team());
        y.setPassage(0, 0, 11);
        check.same("96 and 76", 0b11, y.team());
    }

    private static void promise27Reach() {
        CaveRelay x = Caves.crawls(3, 2);
        Caves.addHelpers(x, 2, 100);
        check.noIndex("reach(2)", x, () -> x.reach(2));
        check.noIndex("reach(-1)", x, () -> x.reach(-1));
        check.same("at the surface", 0, x.reach(1));
        x.go(0, 1);
        check.same("walks", NONE, x.reach(0));
        x.pass(2);
        Caves.walkDownFrom(x, 0, 1, 3);
        check.same("three stations", 3, x.reach(0));
        x.setPassage(0, 40, 2);
        check.same("a pitch does not matter", 3, x.reach(0));
        for (int i = 0; i < 10; i++) {
            x.send(0);
        }
        check.same("nor do 10 on their way", 3, x.reach(0));
        CaveRelay y = Caves.riggedPitch(20, 5, 1, 100);
        y.takeOff(0);
        y.rig(0);
        check.same("rigs", NONE, y.reach(0));
    }

    private static void promise27ReachInSilence() {
        CaveRelay x = Caves.crawls(3, 2);
        Caves.addHelpers(x, 2, 600);
        Caves.walkDown(x, 1, 3);
        check.same("time", 6, x.value(3));
        x.setSilence(9, 20);
        check.same("up ahead of it", 3, x.reach(0));
        x.setSilence(8, 20);
        check.same("one minute behind it", 15, x.reach(0));
        x.setSilence(6, 20);
        check.same("from now on", 17, x.reach(0));
        x.setSilence(0, 20);
        check.same("for long", 17, x.reach(0));
        x.setSilence(0, 7);
        check.same("one minute of it", 4, x.reach(0));
        x.setSilence(0, 6);
        check.same("over", 3, x.reach(0));
        x.setSilence(7, 7);
        check.same("none", 3, x.reach(0));
        x.setSilence(7, 8);
        check.same("one minute", 4, x.reach(0));
        x.setSilence(0, 1003);
        check.same("1000 minutes", 1000, x.reach(0));
        x.setSilence(0, 1004);
        check.same("1001 minutes", NONE, x.reach(0));
        x.setSilence(7, 1004);
        check.same("1000 minutes", 1000, x.reach(0));
        x.setSilence(7, 1005);
        check.same("1001 minutes", NONE, x.reach(0));
        x.setSilence(0, 100000);
        check.same("at the surface all the same", 0, x.reach(1));
        x.setSilence(8, 20);
        x.send(0);
        check.same("not yet", 0, x.pass(14));
        check.same("in 15 minutes, as told", 1, x.pass(1));
    }

    private static void promise28MeanTiredness() {
        CaveRelay x = Caves.crawls(1, 5);
        check.sameDouble("no helpers", 0.0, x.meanTiredness());
        Caves.addHelpers(x, 3, 100);
        check.sameDouble("none is tired", 0.0, x.meanTiredness());
        x.go(0, 1);
        x.pass(5);
        check.sameDouble("5 of 3", 5.0 / 3.0, x.meanTiredness());
        x.go(1, 1);
        x.pass(2);
        check.sameDouble("7 of 3", 7.0 / 3.0, x.meanTiredness());
        x.begin(1);
        check.sameDouble("no helpers again", 0.0, x.meanTiredness());
    }
}
