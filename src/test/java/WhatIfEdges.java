/** Edges of promises 22 to 28. */
final class WhatIfEdges {
    private static final int NONE = CaveRelay.NONE;
    private static final int LEAST = Integer.MIN_VALUE;
    private static final int MOST = Integer.MAX_VALUE;

    private WhatIfEdges() {
    }

    static void all(Edges e) {
        promises22And23(e);
        promises24To26(e);
        promises27And28(e);
    }

    private static void promises22And23(Edges e) {
        e.promise(22, "would take up to the surface without a pause", WhatIfEdges::minutesUpOfAllPassages);
        e.promise(22, "`helper`: number of a helper", WhatIfEdges::minutesUpFirstAndLast);
        e.promise(22, "NONE if the helper does not stand", WhatIfEdges::minutesUpNotStanding);
        e.promise(22, "or a pitch in the way is not rigged", WhatIfEdges::minutesUpPitch);
        e.promise(22, "if there is no such helper", WhatIfEdges::minutesUpNoHelper);
        e.promise(23, "can stay there so as to be up within the limit", WhatIfEdges::spareToTheLimit);
        e.promise(23, "`helper`: number of a helper", WhatIfEdges::spareFirstAndLast);
        e.promise(23, "0 if there would be fewer", WhatIfEdges::spareNotBelowNothing);
        e.promise(23, "NONE if minutesUp() is NONE", WhatIfEdges::spareNoWay);
        e.promise(23, "or the helper stands at station 0", WhatIfEdges::spareAtTheSurface);
        e.promise(23, "if there is no such helper", WhatIfEdges::spareNoHelper);
    }

    private static void promises24To26(Edges e) {
        e.promise(24, "the shortest rope that lies or is with a helper", WhatIfEdges::bestRopeNotRigged);
        e.promise(24, "and would hold a passage", WhatIfEdges::bestRopeLongEnough);
        e.promise(24, "`passage`: number of a passage", WhatIfEdges::bestRopeFirstAndLast);
        e.promise(24, "of several the lowest one", WhatIfEdges::bestRopeOfSeveral);
        e.promise(24, "NONE if there is none", WhatIfEdges::bestRopeNone);
        e.promise(24, "or the passage is a crawl", WhatIfEdges::bestRopeOfACrawl);
        e.promise(24, "if there is no such passage", WhatIfEdges::bestRopeNoPassage);
        e.promise(25, "up to the surface from the station where it lies", WhatIfEdges::carryMinutesOfAll);
        e.promise(25, "0 at the surface", WhatIfEdges::carryMinutesAtTheSurface);
        e.promise(25, "NONE if it is carried", WhatIfEdges::carryMinutesCarried);
        e.promise(25, "or a pitch in the way is not rigged", WhatIfEdges::carryMinutesPitch);
        e.promise(26, "who stand at its station", WhatIfEdges::teamStands);
        e.promise(26, "whose tiredness plus the effort would not be above 100", WhatIfEdges::teamTired);
        e.promise(26, "and who would be in time", WhatIfEdges::teamInTime);
        e.promise(26, "0 if it is carried", WhatIfEdges::teamCarried);
        e.promise(26, "lies at the surface", WhatIfEdges::teamAtTheSurface);
        e.promise(26, "or the passage is a pitch that is not rigged", WhatIfEdges::teamPitch);
    }

    private static void promises27And28(Edges e) {
        e.promise(27, "Tells in how many minutes a message that a helper who stands sent now", WhatIfEdges::reachNow);
        e.promise(27, "`helper`: number of a helper", WhatIfEdges::reachFirstAndLast);
        e.promise(27, "0 at station 0", WhatIfEdges::reachAtTheSurface);
        e.promise(27, "NONE if the helper does not stand", WhatIfEdges::reachNotStanding);
        e.promise(27, "or it would be more than 1000", WhatIfEdges::reachThousand);
        e.promise(27, "Returns the minutes", WhatIfEdges::reachForNoOtherReason);
        e.promise(27, "if there is no such helper", WhatIfEdges::reachNoHelper);
        e.promise(28, "Returns the mean tiredness of the helpers.", WhatIfEdges::meanUntouched);
        e.promise(28, "converted to double, divided by the number of helpers", WhatIfEdges::meanOfSome);
        e.promise(28, "0.0 without helpers", WhatIfEdges::meanOfNone);
    }

    // ---- promises 22 and 23

    private static void minutesUpOfAllPassages(Checks check) {
        CaveRelay x = Caves.standing(7, 7);
        check.same("7 of 2 minutes", 14, x.minutesUp(0));
        for (int p = 0; p < 7; p++) {
            x.setPassage(p, 0, 30);
        }
        check.same("7 of 30 minutes", 210, x.minutesUp(0));
        CaveRelay y = Caves.standing(7, 1);
        for (int p = 1; p < 7; p++) {
            y.setPassage(p, 0, 30);
        }
        check.same("one of 2 minutes", 2, y.minutesUp(0));
        check.same("none", 0, Caves.standing(7, 0).minutesUp(0));
        Undoing.never(check, "minutesUp", () -> Caves.standing(7, 7), z -> z.minutesUp(0));
    }

    private static CaveRelay sixAtStationOne() {
        CaveRelay x = Caves.crawls(2, 1);
        for (int h = 0; h < 6; h++) {
            x.addHelper(100 + h);
        }
        Caves.walkDown(x, 6, 1);
        x.go(2, 2);
        return x;
    }

    private static void minutesUpFirstAndLast(Checks check) {
        for (int h = 0; h < 6; h++) {
            check.same("helper " + h, h == 2 ? NONE : 1, sixAtStationOne().minutesUp(h));
        }
    }

    private static void minutesUpNotStanding(Checks check) {
        check.same("walks down", NONE, Caves.walking(7, 1, 2).minutesUp(0));
        check.same("walks from the surface", NONE, Caves.walking(7, 0, 1).minutesUp(0));
        check.same("walks to the surface", NONE, Caves.later(Caves.walking(7, 1, 0), 1).minutesUp(0));
        check.same("is there", 0, Caves.later(Caves.walking(7, 1, 0), 2).minutesUp(0));
        check.same("rigs", NONE, Caves.rigging(2, 1).minutesUp(0));
        check.same("rigs at the surface", NONE, Caves.rigging(2, 0).minutesUp(0));
        check.same("carries", NONE, Caves.carrying().minutesUp(0));
    }

    private static void minutesUpPitch(Checks check) {
        for (int p = 0; p < 7; p++) {
            CaveRelay x = Caves.standing(7, 6);
            x.setPassage(p, 1, 2);
            check.same("a pitch at passage " + p, p < 6 ? NONE : 12, x.minutesUp(0));
        }
        CaveRelay y = Caves.riggedPitch(60, 9, 2, 100);
        Caves.walkDown(y, 1, 1);
        check.same("rigged", 9, y.minutesUp(0));
        y.takeOff(1);
        check.same("not rigged any more", NONE, y.minutesUp(0));
        y.rig(1);
        check.same("being rigged", NONE, y.minutesUp(0));
    }

    private static void minutesUpNoHelper(Checks check) {
        check.noIndex("no helpers", CaveRelay::new, x -> x.minutesUp(0));
        for (int helper : new int[] {LEAST, -1, 6, MOST}) {
            check.noIndex("helper " + helper, WhatIfEdges::sixAtStationOne, x -> x.minutesUp(helper));
        }
    }

    private static void spareToTheLimit(Checks check) {
        CaveRelay x = Caves.crawls(1, 10);
        x.addHelper(30);
        Caves.walkDown(x, 1, 1);
        check.same("30 without 10 and 10", 10, x.spare(0));
        x.pass(9);
        check.same("one is left", 1, x.spare(0));
        x.pass(1);
        check.same("none is left", 0, x.spare(0));
        x.go(0, 0);
        x.pass(10);
        check.same("up within the limit", 0, x.value(13));
        CaveRelay y = Caves.crawls(1, 1);
        y.addHelper(600);
        Caves.walkDown(y, 1, 1);
        check.same("600 without 1 and 1", 598, y.spare(0));
        Undoing.never(check, "spare", () -> Caves.standing(7, 7), z -> z.spare(0));
    }

    private static void spareFirstAndLast(Checks check) {
        for (int h = 0; h < 6; h++) {
            check.same("helper " + h, h == 2 ? NONE : 98 + h, sixAtStationOne().spare(h));
        }
    }

    private static void spareNotBelowNothing(Checks check) {
        CaveRelay x = Caves.crawls(1, 10);
        x.addHelper(30);
        Caves.walkDown(x, 1, 1);
        x.setPassage(0, 0, 20);
        check.same("30 without 10 and 20", 0, x.spare(0));
        x.setPassage(0, 0, 21);
        check.same("30 without 10 and 21", 0, x.spare(0));
        x.setPassage(0, 0, 30);
        check.same("30 without 10 and 30", 0, x.spare(0));
        x.setPassage(0, 9, 1);
        x.pass(600);
        x.setPassage(0, 0, 1);
        check.same("long too late", 0, x.spare(0));
    }

    private static void spareNoWay(Checks check) {
        CaveRelay x = Caves.standing(7, 6);
        x.setPassage(0, 1, 2);
        check.same("a pitch", NONE, x.spare(0));
        x.setPassage(0, 0, 2);
        x.setPassage(6, 1, 2);
        check.same("a pitch below", 600 - 12 - 12, x.spare(0));
        check.same("walks", NONE, Caves.walking(7, 1, 2).spare(0));
        check.same("rigs", NONE, Caves.rigging(7, 1).spare(0));
        check.same("rigs at the surface", NONE, Caves.rigging(7, 0).spare(0));
        check.same("carries", NONE, Caves.carrying().spare(0));
    }

    private static void spareAtTheSurface(Checks check) {
        check.same("at the surface", NONE, Caves.standing(7, 0).spare(0));
        check.same("at station 1", 596, Caves.standing(7, 1).spare(0));
        check.same("up again", NONE, Caves.later(Caves.walking(7, 1, 0), 2).spare(0));
    }

    private static void spareNoHelper(Checks check) {
        check.noIndex("no helpers", CaveRelay::new, x -> x.spare(0));
        for (int helper : new int[] {LEAST, -1, 6, MOST}) {
            check.noIndex("helper " + helper, WhatIfEdges::sixAtStationOne, x -> x.spare(helper));
        }
    }

    // ---- promises 24 to 26

    private static void bestRopeNotRigged(Checks check) {
        CaveRelay x = Caves.begun(2);
        x.setPassage(0, 20, 2);
        x.setPassage(1, 7, 2);
        x.addRope(30);
        x.addRope(25);
        x.addHelper(600);
        check.same("lies", 1, x.bestRope(0));
        x.take(0, 1);
        check.same("with a helper", 1, x.bestRope(0));
        x.rig(0);
        x.pass(9);
        check.same("with the one who rigs", 1, x.bestRope(0));
        check.same("of another passage, too", 1, x.bestRope(1));
        x.pass(1);
        check.same("rigged there", 0, x.bestRope(0));
        check.same("rigged elsewhere", 0, x.bestRope(1));
        x.takeOff(0);
        check.same("taken off", 1, x.bestRope(0));
        Undoing.never(check, "bestRope", () -> Caves.ropes(8), y -> y.bestRope(1));
    }

    private static void bestRopeLongEnough(Checks check) {
        for (int drop : new int[] {1, 7, 8, 20, 59, 60}) {
            CaveRelay x = new CaveRelay();
            x.setPassage(1, drop, 1);
            if (drop + 2 >= 10) {
                x.addRope(drop + 2);
                check.same("drop " + drop + ", too short by 1", NONE, x.bestRope(1));
            }
            x.addRope(Math.max(10, drop + 3));
            check.same("drop " + drop, x.value(1) - 1, x.bestRope(1));
        }
    }

    private static void bestRopeFirstAndLast(Checks check) {
        CaveRelay x = Caves.begun(7);
        x.setPassage(0, 20, 1);
        x.setPassage(6, 40, 1);
        x.addRope(43);
        x.addRope(23);
        check.same("the first", 1, x.bestRope(0));
        check.same("another", NONE, x.bestRope(5));
        check.same("the last", 0, x.bestRope(6));
    }

    private static void bestRopeOfSeveral(Checks check) {
        CaveRelay x = new CaveRelay();
        x.addRope(10);
        for (int length : new int[] {80, 24, 80, 24, 23, 23, 23}) {
            x.addRope(length);
        }
        check.same("the lowest of three", 5, x.bestRope(1));
        CaveRelay same = new CaveRelay();
        for (int i = 0; i < 8; i++) {
            same.addRope(38);
        }
        check.same("of eight", 0, same.bestRope(3));
        same.addHelper(100);
        same.take(0, 0);
        check.same("with a helper, all the same", 0, same.bestRope(3));
        CaveRelay shorter = Caves.ropes(0);
        for (int length : new int[] {30, 29, 28, 27, 26, 25, 24, 23}) {
            shorter.addRope(length);
        }
        check.same("the last is the shortest", 7, shorter.bestRope(1));
    }

    private static void bestRopeNone(Checks check) {
        check.same("no ropes", NONE, new CaveRelay().bestRope(1));
        CaveRelay x = Caves.ropes(8);
        x.setPassage(1, 25, 1);
        check.same("all too short", NONE, x.bestRope(1));
        check.same("all rigged", NONE, Caves.riggedPitch(20, 1, 1, 100).bestRope(0));
    }

    private static void bestRopeOfACrawl(Checks check) {
        CaveRelay x = Caves.ropes(8);
        check.same("a crawl", NONE, x.bestRope(0));
        x.setPassage(0, 1, 5);
        check.same("a drop of 1", 0, x.bestRope(0));
        x.setPassage(0, 0, 5);
        check.same("a crawl again", NONE, x.bestRope(0));
    }

    private static void bestRopeNoPassage(Checks check) {
        for (int passage : new int[] {LEAST, -1, 4, 7, MOST}) {
            check.noIndex("passage " + passage, () -> Caves.ropes(8), x -> x.bestRope(passage));
        }
        check.noIndex("passage 7 of 7", () -> Caves.begun(7), x -> x.bestRope(7));
        check.noIndex("passage 1 of 1", () -> Caves.begun(1), x -> x.bestRope(1));
    }

    private static void carryMinutesOfAll(Checks check) {
        CaveRelay x = Caves.atStretcher(7, 1, 3);
        for (int station = 7; station > 0; station--) {
            check.same("from station " + station, 3 * station, x.carryMinutes());
            x.carry(7);
            x.pass(3);
        }
        CaveRelay y = Caves.crawls(7, 30);
        check.same("7 of 30 minutes", 630, y.carryMinutes());
        check.same("one of 30 minutes", 90, Caves.crawls(1, 30).carryMinutes());
        Undoing.never(check, "carryMinutes", Caves::busy, CaveRelay::carryMinutes);
    }

    private static CaveRelay carriedUp() {
        CaveRelay x = Caves.carrying();
        x.pass(6);
        return x;
    }

    private static void carryMinutesAtTheSurface(Checks check) {
        CaveRelay x = carriedUp();
        check.same("at the surface", 0, x.value(4));
        check.same("at the surface", 0, x.carryMinutes());
        x.setPassage(0, 1, 1);
        check.same("a pitch below", 0, x.carryMinutes());
    }

    private static void carryMinutesCarried(Checks check) {
        check.same("carried", NONE, Caves.carrying().carryMinutes());
        check.same("carried, nearly there", NONE, Caves.later(Caves.carrying(), 5).carryMinutes());
        check.same("lies", 0, Caves.later(Caves.carrying(), 6).carryMinutes());
    }

    private static void carryMinutesPitch(Checks check) {
        check.same("initially", NONE, new CaveRelay().carryMinutes());
        for (int p = 0; p < 7; p++) {
            CaveRelay x = Caves.crawls(7, 1);
            x.setPassage(p, 1, 1);
            check.same("a pitch at passage " + p, NONE, x.carryMinutes());
        }
        CaveRelay y = Caves.atStretcher(7, 1, 3);
        y.carry(7);
        y.pass(3);
        y.setPassage(6, 1, 1);
        check.same("a pitch below", 18, y.carryMinutes());
        y.setPassage(5, 1, 1);
        check.same("a pitch just above", NONE, y.carryMinutes());
        check.same("rigged", 3, Caves.riggedPitch(60, 1, 1, 100).carryMinutes());
    }

    private static void teamStands(Checks check) {
        for (int count = 0; count <= 6; count++) {
            CaveRelay x = Caves.crawls(1, 1);
            Caves.addHelpers(x, 6, 600);
            Caves.walkDown(x, count, 1);
            check.same(count + " are there", (1 << count) - 1, x.team());
        }
        CaveRelay x = Caves.atStretcher(2, 2, 6);
        x.go(0, 1);
        x.go(5, 1);
        check.same("two walk", 0b011110, x.team());
        x.pass(2);
        check.same("two are above", 0b011110, x.team());
        x.go(0, 2);
        x.pass(1);
        check.same("one walks there", 0b011110, x.team());
        x.pass(1);
        check.same("one is there again", 0b011111, x.team());
        CaveRelay rigs = Caves.crawls(2, 1);
        rigs.addRope(80);
        Caves.addHelpers(rigs, 4, 600);
        rigs.take(3, 0);
        Caves.walkDown(rigs, 4, 2);
        rigs.carry(7);
        rigs.go(3, 1);
        rigs.pass(3);
        check.same("four", 0b1111, rigs.team());
        rigs.setPassage(1, 9, 1);
        rigs.rig(3);
        check.same("one rigs", 0b0111, rigs.team());
        Undoing.never(check, "team", () -> Caves.atStretcher(2, 2, 6), CaveRelay::team);
    }

    private static void teamTired(Checks check) {
        CaveRelay x = Caves.atStretcher(1, 10, 3);
        x.setPassage(0, 0, 15);
        check.same("10 and 90", 0b111, x.team());
        CaveRelay y = Caves.atStretcher(1, 11, 3);
        y.setPassage(0, 0, 15);
        check.same("11 and 90", 0, y.team());
        CaveRelay z = Caves.crawls(1, 5);
        Caves.addHelpers(z, 3, 600);
        z.pass(z.go(1, 1));
        z.setPassage(0, 0, 1);
        z.pass(z.go(1, 0));
        z.setPassage(0, 0, 5);
        Caves.walkDown(z, 3, 1);
        z.setPassage(0, 0, 15);
        check.same("11 and 90 of one, 5 and 90 of two", 0b101, z.team());
    }

    private static void teamInTime(Checks check) {
        CaveRelay x = Caves.crawls(2, 5);
        for (int limit : new int[] {30, 31, 32}) {
            x.addHelper(limit);
        }
        Caves.walkDown(x, 3, 2);
        // 10 minutes below, 15 of carrying, 5 up
        check.same("30 minutes", 0b111, x.team());
        x.pass(1);
        check.same("31 minutes", 0b110, x.team());
        x.pass(1);
        check.same("32 minutes", 0b100, x.team());
        x.pass(1);
        check.same("33 minutes", 0, x.team());
    }

    private static void teamCarried(Checks check) {
        CaveRelay x = Caves.atStretcher(2, 1, 6);
        x.carry(7);
        check.same("three are left", 0, x.team());
        x.pass(2);
        check.same("nearly there", 0, x.team());
        x.pass(1);
        check.same("lies above", 7, x.team());
    }

    private static void teamAtTheSurface(Checks check) {
        CaveRelay x = carriedUp();
        x.addHelper(600);
        check.same("at the surface", 0, x.team());
        Caves.walkDown(x, 3, 1);
        check.same("and they below", 0, x.team());
    }

    private static void teamPitch(Checks check) {
        CaveRelay x = Caves.atStretcher(2, 1, 3);
        x.setPassage(1, 1, 1);
        check.same("a pitch", 0, x.team());
        x.setPassage(1, 0, 1);
        x.setPassage(0, 1, 1);
        check.same("a pitch further up", 7, x.team());
        CaveRelay y = Caves.riggedPitch(60, 1, 4, 600);
        Caves.walkDown(y, 3, 1);
        check.same("rigged", 7, y.team());
        y.takeOff(3);
        check.same("not rigged any more", 0, y.team());
        y.rig(3);
        check.same("being rigged", 0, y.team());
    }

    // ---- promises 27 and 28

    /** The minutes in which a message that helper 0 sends does come. */
    private static int comes(CaveRelay x) {
        x.send(0);
        int before = x.value(8);
        int minutes = 0;
        while (x.value(8) == before && minutes < 400) {
            x.pass(1);
            minutes++;
        }
        return minutes;
    }

    private static CaveRelay silent(int first, int last) {
        CaveRelay x = Caves.standing(3, 3);
        x.setSilence(first, last);
        return x;
    }

    private static void reachNow(Checks check) {
        // the time is 6, the way is 3
        int[][] silences = {{0, 0, 3}, {0, 6, 3}, {0, 7, 4}, {6, 7, 4}, {6, 6, 3}, {7, 8, 4}, {8, 9, 4}, {8, 300, 295},
            {9, 10, 3}, {9, 300, 3}, {5, 300, 297}, {6, 300, 297}, {100000, 100000, 3}};
        for (int[] s : silences) {
            check.same("silence from " + s[0] + " to " + s[1], s[2], silent(s[0], s[1]).reach(0));
            check.same("as it is then, from " + s[0] + " to " + s[1], s[2], comes(silent(s[0], s[1])));
        }
        for (int station = 1; station <= 7; station++) {
            check.same("from station " + station, station, Caves.standing(7, station).reach(0));
        }
        CaveRelay x = Caves.standing(7, 7);
        for (int p = 0; p < 7; p++) {
            x.setPassage(p, 60, 30);
        }
        check.same("pitches do not matter", 7, x.reach(0));
        Undoing.never(check, "reach", () -> Caves.standing(7, 7), y -> y.reach(0));
    }

    private static void reachFirstAndLast(Checks check) {
        for (int h = 0; h < 6; h++) {
            check.same("helper " + h, h == 2 ? NONE : 1, sixAtStationOne().reach(h));
        }
    }

    private static void reachAtTheSurface(Checks check) {
        CaveRelay x = Caves.standing(3, 0);
        check.same("at the surface", 0, x.reach(0));
        x.setSilence(0, 100000);
        check.same("in silence, too", 0, x.reach(0));
        x.pass(50);
        check.same("in the midst of it", 0, x.reach(0));
        x.setSilence(0, 60);
        check.same("in the midst of a short one", 0, x.reach(0));
        CaveRelay y = Caves.standing(3, 1);
        y.setSilence(0, 60);
        check.same("beside the surface", 1 + 58, y.reach(0));
    }

    private static void reachNotStanding(Checks check) {
        check.same("walks", NONE, Caves.walking(3, 1, 2).reach(0));
        check.same("walks from the surface", NONE, Caves.walking(3, 0, 1).reach(0));
        check.same("rigs", NONE, Caves.rigging(3, 1).reach(0));
        check.same("rigs at the surface", NONE, Caves.rigging(3, 0).reach(0));
        check.same("carries", NONE, Caves.carrying().reach(0));
    }

    private static void reachThousand(Checks check) {
        check.same("1000 minutes from now", 1000, silent(0, 1003).reach(0));
        check.same("1001 minutes from now", NONE, silent(0, 1004).reach(0));
        check.same("1000 minutes, silent later", 1000, silent(8, 1005).reach(0));
        check.same("1001 minutes, silent later", NONE, silent(8, 1006).reach(0));
        check.same("up ahead of a long silence", 3, silent(9, 100000).reach(0));
        check.same("for ever", NONE, silent(0, 100000).reach(0));
        CaveRelay x = silent(0, 1004);
        x.pass(1);
        check.same("a minute later", 1000, x.reach(0));
    }

    /** Only two reasons for NONE are told: that the message could not be sent, or not come in time, is none of them. */
    private static void reachForNoOtherReason(Checks check) {
        CaveRelay x = Caves.standing(3, 3);
        for (int i = 0; i < 10; i++) {
            x.send(0);
        }
        check.notNow("an eleventh", x, () -> x.send(0));
        check.same("10 on their way", 3, x.reach(0));
        CaveRelay y = Caves.standing(3, 3);
        // so that the helper does not go up
        y.setPassage(2, 60, 2);
        while (y.value(3) < 99999) {
            y.pass(Math.min(600, 99999 - y.value(3)));
        }
        check.same("behind the end of the time", 3, y.reach(0));
        y.setSilence(0, 100000);
        check.same("behind a silence up to its end", 4, y.reach(0));
        y.pass(1);
        check.same("at its end", 3, y.reach(0));
    }

    private static void reachNoHelper(Checks check) {
        check.noIndex("no helpers", CaveRelay::new, x -> x.reach(0));
        for (int helper : new int[] {LEAST, -1, 6, MOST}) {
            check.noIndex("helper " + helper, WhatIfEdges::sixAtStationOne, x -> x.reach(helper));
        }
    }

    private static void meanUntouched(Checks check) {
        Undoing.never(check, "meanTiredness", Caves::busy, CaveRelay::meanTiredness);
    }

    private static void meanOfSome(Checks check) {
        for (int count = 1; count <= 6; count++) {
            CaveRelay x = Caves.crawls(1, 7);
            Caves.addHelpers(x, count, 600);
            check.sameDouble("none is tired", 0.0, x.meanTiredness());
            x.pass(x.go(count - 1, 1));
            check.sameDouble("7 of " + count, 7.0 / count, x.meanTiredness());
        }
        CaveRelay x = Caves.tired(100);
        check.sameDouble("most", 100.0, x.meanTiredness());
        x.addHelper(30);
        check.sameDouble("a half", 50.0, x.meanTiredness());
        x.addHelper(30);
        check.sameDouble("a third", 100.0 / 3.0, x.meanTiredness());
    }

    private static void meanOfNone(Checks check) {
        check.sameDouble("new", 0.0, new CaveRelay().meanTiredness());
        CaveRelay x = Caves.busy();
        check.hold("some", x.meanTiredness() > 0.0);
        x.begin(4);
        check.sameDouble("begun", 0.0, x.meanTiredness());
        check.same("not -0.0", Double.doubleToLongBits(0.0), Double.doubleToLongBits(x.meanTiredness()));
    }
}
