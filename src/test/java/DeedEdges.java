/** Edges of the terms "Walking", "Carrying" and "Rigging", and of promises 7 to 13. */
final class DeedEdges {
    private static final int NONE = CaveRelay.NONE;
    private static final int LEAST = Integer.MIN_VALUE;
    private static final int MOST = Integer.MAX_VALUE;

    private DeedEdges() {
    }

    static void all(Edges e) {
        walking(e);
        carryingAndRigging(e);
        promises7To9(e);
        promises10And11(e);
        promises12And13(e);
    }

    private static void walking(Edges e) {
        e.term("A helper who stands can go to the station above or below.", DeedEdges::aboveOrBelow);
        e.term("The way takes the passage's minutes", DeedEdges::minutesOfTheWay);
        e.term("its effort is as much, or twice as much up a pitch", DeedEdges::effortOfTheWay);
        e.term("1 the helper does not stand", DeedEdges::reason1);
        e.term("2 there is no such station (above station 0, or below the lowest one)", DeedEdges::reason2NoStation);
        e.term("or it is not beside the helper's one", DeedEdges::reason2NotBeside);
        e.term("3 the passage is a pitch that is not rigged", DeedEdges::reason3);
        e.term("4 the tiredness plus the effort would be above 100", DeedEdges::reason4);
        e.term("5 it goes down, and the helper would not be in time at the station below", DeedEdges::reason5);
        e.term("It is refused for the first of these reasons", DeedEdges::theFirstReason);
    }

    private static void carryingAndRigging(Edges e) {
        e.term("3 to 6 helpers who stand at the stretcher's station", DeedEdges::threeToSix);
        e.term("not the surface, can carry it to the station above", DeedEdges::notAtTheSurface);
        e.term("This takes three times the passage's minutes", DeedEdges::carryTakes);
        e.term("its effort, for each of them, is twice as much as it takes", DeedEdges::carryEffort);
        e.term("each of them must be in time at the station above", DeedEdges::carryInTime);
        e.term("They walk then.", DeedEdges::carriersWalk);
        e.term("A helper who stands, has a rope, and stands at the upper end of a pitch", DeedEdges::rigAtTheUpperEnd);
        e.term("of a pitch that is not rigged, and that no helper is rigging", DeedEdges::rigOnce);
        e.term("for which the rope is long enough", DeedEdges::rigLongEnough);
        e.term("if the helper would be in time there after the 10 minutes", DeedEdges::rigInTime);
        e.term("Then the rope is rigged there.", DeedEdges::rigTakesTenMinutes);
        e.term("can be taken off by a helper who stands at the upper end", DeedEdges::takeOffAtTheUpperEnd);
        e.term("has no rope, and through whose passage nobody walks", DeedEdges::takeOffWithoutRope);
        e.term("through whose passage nobody walks; the helper has it then", DeedEdges::takeOffNobodyWalks);
    }

    private static void promises7To9(Edges e) {
        e.promise(7, "A helper goes to a station. Undoable.", DeedEdges::goUndone);
        e.promise(7, "`helper`: number of a helper", DeedEdges::goFirstAndLast);
        e.promise(7, "`station`: a station, beside the helper's one", DeedEdges::goLowestAndSurface);
        e.promise(7, "Returns the minutes that it takes.", DeedEdges::goReturns);
        e.promise(7, "if there is no such helper", DeedEdges::goNoHelper);
        e.promise(7, "if why() is not 0", DeedEdges::goRefused);
        e.promise(8, "that lies at the helper's station. Undoable.", DeedEdges::takeUndone);
        e.promise(8, "`helper`: number of a helper", DeedEdges::takeFirstAndLastHelper);
        e.promise(8, "`rope`: number of a rope", DeedEdges::takeFirstAndLastRope);
        e.promise(8, "Returns its length.", DeedEdges::takeReturns);
        e.promise(8, "if there is no such helper or rope", DeedEdges::takeNoSuch);
        e.promise(8, "if the helper does not stand", DeedEdges::takeNotStanding);
        e.promise(8, "or has a rope", DeedEdges::takeHasOne);
        e.promise(8, "or the rope does not lie there", DeedEdges::takeNotThere);
        e.promise(9, "at the helper's station. Undoable.", DeedEdges::layUndone);
        e.promise(9, "`helper`: number of a helper", DeedEdges::layFirstAndLast);
        e.promise(9, "Returns the number of the rope.", DeedEdges::layReturns);
        e.promise(9, "if there is no such helper", DeedEdges::layNoHelper);
        e.promise(9, "if the helper does not stand", DeedEdges::layNotStanding);
        e.promise(9, "or has no rope", DeedEdges::layHasNone);
    }

    private static void promises10And11(Edges e) {
        e.promise(10, "A helper begins to rig the passage below. Undoable.", DeedEdges::rigUndone);
        e.promise(10, "`helper`: number of a helper", DeedEdges::rigFirstAndLast);
        e.promise(10, "Returns the passage.", DeedEdges::rigReturns);
        e.promise(10, "if there is no such helper", DeedEdges::rigNoHelper);
        e.promise(10, "if it is not possible, as told above", DeedEdges::rigNotPossible);
        e.promise(11, "takes the rope of the passage below off. Undoable.", DeedEdges::takeOffUndone);
        e.promise(11, "`helper`: number of a helper", DeedEdges::takeOffFirstAndLast);
        e.promise(11, "Returns the number of the rope.", DeedEdges::takeOffReturns);
        e.promise(11, "if there is no such helper", DeedEdges::takeOffNoHelper);
        e.promise(11, "if the passage below is not rigged or there is none", DeedEdges::takeOffNotRigged);
        e.promise(11, "or it is not possible, as told above", DeedEdges::takeOffNotPossible);
    }

    private static void promises12And13(Edges e) {
        e.promise(12, "begin to carry the stretcher up. Undoable.", DeedEdges::carryUndone);
        e.promise(12, "`helpers`: a set of helpers: bit h for helper h", DeedEdges::carryBits);
        e.promise(12, "Returns the minutes that it takes.", DeedEdges::carryReturns);
        e.promise(12, "if there is a bit that is no helper", DeedEdges::carryNoHelper);
        e.promise(12, "or there are not 3 to 6 helpers", DeedEdges::carryTooFew);
        e.promise(12, "if the stretcher is carried", DeedEdges::carryCarried);
        e.promise(12, "or lies at the surface", DeedEdges::carryAtTheSurface);
        e.promise(12, "a helper does not stand at its station", DeedEdges::carryNotStanding);
        e.promise(12, "the passage is a pitch that is not rigged", DeedEdges::carryNotRigged);
        e.promise(12, "the tiredness of a helper plus the effort would be above 100", DeedEdges::carryTired);
        e.promise(12, "or a helper would not be in time", DeedEdges::carryLate);
        e.promise(13, "A helper sends a message. Undoable.", DeedEdges::sendUndone);
        e.promise(13, "`helper`: number of a helper", DeedEdges::sendFirstAndLast);
        e.promise(13, "Returns the number of messages that are on their way then.", DeedEdges::sendReturns);
        e.promise(13, "if there is no such helper", DeedEdges::sendNoHelper);
        e.promise(13, "if the helper does not stand", DeedEdges::sendNotStanding);
        e.promise(13, "there are 10 on their way, and the helper does not stand at station 0",
                DeedEdges::sendEleventh);
    }

    // ---- walking

    private static void aboveOrBelow(Checks check) {
        CaveRelay x = Caves.standing(3, 1);
        check.same("above", 0, x.why(0, 0));
        check.same("there", 2, x.why(0, 1));
        check.same("below", 0, x.why(0, 2));
        check.same("two below", 2, x.why(0, 3));
        check.same("up", 2, Caves.standing(3, 1).go(0, 0));
        check.same("down", 2, Caves.standing(3, 1).go(0, 2));
        check.notNow("walking", () -> Caves.walking(3, 1, 2), y -> y.go(0, 1));
        check.notNow("rigging", () -> Caves.rigging(3, 1), y -> y.go(0, 0));
    }

    private static void minutesOfTheWay(Checks check) {
        for (int drop : new int[] {0, 60}) {
            for (int minutes : new int[] {1, 2, 30}) {
                CaveRelay x = Caves.riggedPitch(60, minutes, 1, 600);
                if (drop == 0) {
                    x.takeOff(0);
                    x.setPassage(0, 0, minutes);
                }
                check.same("down", minutes, x.go(0, 1));
                check.helper("down", x, 0, 600, 0, 1, 1, minutes);
                x.pass(minutes);
                check.helper("there", x, 0, 600, 1, 0, NONE, 0);
                check.same("up", minutes, x.go(0, 0));
                check.helper("up", x, 0, 600, 1, 1, 0, minutes);
                x.pass(minutes);
                check.helper("there", x, 0, 600, 0, 0, NONE, 0);
            }
        }
    }

    private static void effortOfTheWay(Checks check) {
        CaveRelay x = Caves.riggedPitch(1, 30, 1, 600);
        x.go(0, 1);
        x.pass(30);
        check.same("down a pitch", 30, x.helper(0, 6));
        x.go(0, 0);
        x.pass(30);
        check.same("up a pitch", 90, x.helper(0, 6));
        CaveRelay y = Caves.crawls(1, 30);
        y.addHelper(600);
        Caves.walkDown(y, 1, 1);
        check.same("down a crawl", 30, y.helper(0, 6));
        y.go(0, 0);
        y.pass(30);
        check.same("up a crawl", 60, y.helper(0, 6));
    }

    private static void reason1(Checks check) {
        CaveRelay x = Caves.walking(3, 1, 2);
        check.same("walks, in the first minute", 1, x.why(0, 0));
        x.pass(1);
        check.same("walks, in the last minute", 1, x.why(0, 2));
        x.pass(1);
        check.same("stands", 0, x.why(0, 3));
        CaveRelay y = Caves.rigging(3, 1);
        check.same("rigs, in the first minute", 1, y.why(0, 0));
        y.pass(9);
        check.same("rigs, in the last minute", 1, y.why(0, 0));
        y.pass(1);
        check.same("stands", 0, y.why(0, 0));
        check.same("carries", 1, Caves.carrying().why(2, 0));
    }

    private static void reason2NoStation(Checks check) {
        CaveRelay x = Caves.standing(1, 0);
        check.same("above station 0", 2, x.why(0, -1));
        check.same("the lowest one", 0, x.why(0, 1));
        CaveRelay y = Caves.standing(1, 1);
        check.same("below the lowest one", 2, y.why(0, 2));
        check.same("station 0", 0, y.why(0, 0));
        CaveRelay z = Caves.standing(7, 7);
        check.same("below the lowest one of 7 passages", 2, z.why(0, 8));
        CaveRelay four = new CaveRelay();
        four.begin(4);
        four.setPassage(1, 0, 1);
        four.setPassage(3, 0, 1);
        four.addHelper(600);
        Caves.walkDown(four, 1, 4);
        check.same("below the lowest one of 4 passages", 2, four.why(0, 5));
    }

    private static void reason2NotBeside(Checks check) {
        CaveRelay x = Caves.standing(7, 3);
        for (int station = -2; station <= 9; station++) {
            boolean beside = station == 2 || station == 4;
            check.same("from 3 to " + station, beside ? 0 : 2, x.why(0, station));
        }
        for (int far : new int[] {LEAST, LEAST + 3, MOST - 3, MOST}) {
            check.same("to " + far, 2, x.why(0, far));
            check.notNow("to " + far, () -> Caves.standing(7, 3), y -> y.go(0, far));
        }
    }

    private static void reason3(Checks check) {
        CaveRelay x = Caves.standing(2, 1);
        x.setPassage(0, 1, 2);
        x.setPassage(1, 1, 2);
        check.same("up, a drop of 1", 3, x.why(0, 0));
        check.same("down, a drop of 1", 3, x.why(0, 2));
        x.setPassage(0, 0, 2);
        check.same("up a crawl", 0, x.why(0, 0));
        check.same("the other one", 3, x.why(0, 2));
        CaveRelay y = Caves.rigging(2, 1);
        y.addHelper(600);
        Caves.walkDownFrom(y, 1, 0, 1);
        check.same("not rigged yet", 3, y.why(1, 2));
        y.pass(8);
        check.same("rigged", 0, y.why(1, 2));
    }

    private static void reason4(Checks check) {
        CaveRelay x = Caves.tired(70);
        check.same("70", 70, x.helper(0, 6));
        x.setPassage(0, 0, 30);
        check.same("100 up a crawl", 0, x.why(0, 0));
        x.setPassage(1, 0, 30);
        check.same("100 down a crawl", 0, x.why(0, 2));
        CaveRelay y = Caves.tired(71);
        y.setPassage(0, 0, 30);
        check.same("101 up a crawl", 4, y.why(0, 0));
        y.setPassage(1, 0, 30);
        check.same("101 down a crawl", 4, y.why(0, 2));
        y.setPassage(0, 0, 29);
        check.same("100 up a crawl", 0, y.why(0, 0));
        for (int rest : new int[] {19, 20, 21}) {
            CaveRelay z = Caves.riggedPitch(60, 20, 1, 600);
            z.go(0, 1);
            z.pass(20);
            z.go(0, 0);
            z.pass(20 + rest);
            z.go(0, 1);
            z.pass(20);
            check.same(80 - rest + " and 40 up a pitch", 80 - rest + 40 > 100 ? 4 : 0, z.why(0, 0));
        }
    }

    private static void reason5(Checks check) {
        CaveRelay x = Caves.crawls(2, 10);
        x.addHelper(40);
        x.addHelper(39);
        Caves.walkDown(x, 2, 1);
        check.same("40 of 40", 0, x.why(0, 2));
        check.same("40 of 39", 5, x.why(1, 2));
        check.same("up it is no reason", 0, x.why(1, 0));
        x.setPassage(0, 0, 30);
        check.same("up it is no reason, 60 of 40", 0, x.why(0, 0));
        CaveRelay y = Caves.crawls(1, 15);
        y.addHelper(30);
        check.same("from the surface, 30 of 30", 0, y.why(0, 1));
        y.setPassage(0, 0, 16);
        check.same("from the surface, 32 of 30", 5, y.why(0, 1));
        check.notNow("late", () -> {
            CaveRelay z = Caves.crawls(1, 16);
            z.addHelper(30);
            return z;
        }, z -> z.go(0, 1));
    }

    private static void theFirstReason(Checks check) {
        check.same("1 ahead of 2, walking", 1, Caves.walking(3, 1, 2).why(0, 9));
        check.same("1 ahead of 2, rigging", 1, Caves.rigging(3, 1).why(0, -1));
        CaveRelay x = Caves.rigging(3, 1);
        check.same("1 ahead of 3", 1, x.why(0, 2));
        CaveRelay y = Caves.tired(100);
        y.setPassage(1, 60, 30);
        y.setPassage(0, 0, 30);
        check.same("2 ahead of all", 2, y.why(0, 3));
        check.same("3 ahead of 4 and 5", 3, y.why(0, 2));
        check.same("3 ahead of 4, up", 3, pitchAbove(y).why(0, 0));
        y.setPassage(1, 0, 30);
        y.pass(530);
        check.same("4 ahead of 5", 4, y.why(0, 2));
        CaveRelay z = Caves.crawls(1, 1);
        z.addHelper(30);
        Caves.walkDown(z, 1, 1);
        check.same("2 ahead of 5", 2, z.why(0, 2));
        CaveRelay late = Caves.crawls(1, 30);
        late.addHelper(30);
        check.same("5", 5, late.why(0, 1));
        late.setPassage(0, 1, 30);
        check.same("3 ahead of 5", 3, late.why(0, 1));
    }

    private static CaveRelay pitchAbove(CaveRelay x) {
        x.setPassage(0, 1, 30);
        return x;
    }

    // ---- carrying

    private static void threeToSix(Checks check) {
        int[] teams = {0b111, 0b1111, 0b11111, 0b111111, 0b111000, 0b101010};
        for (int team : teams) {
            check.same("team " + team, 6, Caves.atStretcher(1, 2, 6).carry(team));
        }
        for (int few : new int[] {0, 1, 32, 3, 33, 48}) {
            check.badArgument("team " + few, () -> Caves.atStretcher(1, 2, 6), x -> x.carry(few));
        }
        check.notNow("one is at another station", () -> oneAway(2), x -> x.carry(0b1111));
        check.same("without that one", 6, oneAway(2).carry(0b0111));
        check.notNow("one is on the way there", () -> oneAway(1), x -> x.carry(0b1111));
    }

    /** Helpers 0 to 2 stand at the stretcher, helper 3 went up some minutes before. */
    private static CaveRelay oneAway(int minutes) {
        CaveRelay x = Caves.atStretcher(2, 2, 4);
        x.go(3, 1);
        x.pass(minutes);
        return x;
    }

    private static CaveRelay stretcherUp() {
        CaveRelay x = Caves.atStretcher(1, 1, 6);
        x.carry(7);
        for (int h = 3; h < 6; h++) {
            x.go(h, 0);
        }
        x.pass(3);
        return x;
    }

    private static void notAtTheSurface(Checks check) {
        check.same("it is up", 0, stretcherUp().value(4));
        for (int team : new int[] {0b111, 0b111000, 0b111111}) {
            check.notNow("at the surface", DeedEdges::stretcherUp, x -> x.carry(team));
        }
        CaveRelay x = Caves.atStretcher(2, 1, 3);
        check.same("from station 2", 3, x.carry(7));
        x.pass(3);
        check.same("from station 1, the last one", 3, x.carry(7));
        x.pass(3);
        check.same("to the surface", 0, x.value(4));
    }

    private static void carryTakes(Checks check) {
        for (int minutes : new int[] {1, 2, 14}) {
            CaveRelay x = Caves.atStretcher(1, minutes, 3);
            check.same("three times " + minutes, 3 * minutes, x.carry(7));
            x.pass(3 * minutes - 1);
            for (int h = 0; h < 3; h++) {
                check.helper("nearly there", x, h, 600, 1, 1, 0, 1);
            }
            check.same("is carried", 1, x.value(5));
            x.pass(1);
            for (int h = 0; h < 3; h++) {
                check.helper("there", x, h, 600, 0, 0, NONE, 0);
            }
            check.same("lies", 0, x.value(5));
        }
        CaveRelay longest = Caves.atStretcher(1, 1, 3);
        longest.setPassage(0, 0, 16);
        check.same("three times 16", 48, longest.carry(7));
    }

    private static void carryEffort(Checks check) {
        CaveRelay x = Caves.atStretcher(1, 4, 3);
        x.carry(7);
        x.pass(12);
        for (int h = 0; h < 3; h++) {
            check.same("up a crawl, helper " + h, 4 + 24, x.helper(h, 6));
        }
        CaveRelay y = Caves.riggedPitch(60, 4, 3, 600);
        Caves.walkDown(y, 3, 1);
        y.carry(7);
        y.pass(12);
        for (int h = 0; h < 3; h++) {
            check.same("up a pitch, helper " + h, 4 + 24, y.helper(h, 6));
        }
    }

    /** Ten minutes below, fifteen of carrying and five up: thirty in all. */
    private static CaveRelay lateCarriers(int helper, int limit, int wait) {
        CaveRelay x = Caves.crawls(2, 5);
        for (int h = 0; h < 3; h++) {
            x.addHelper(h == helper ? limit : 600);
        }
        Caves.walkDown(x, 3, 2);
        if (wait > 0) {
            x.pass(wait);
        }
        return x;
    }

    private static void carryInTime(Checks check) {
        for (int h = 0; h < 3; h++) {
            int helper = h;
            check.same("30 of 30, helper " + h, 15, lateCarriers(h, 30, 0).carry(7));
            check.notNow("31 of 30, helper " + h, () -> lateCarriers(helper, 30, 1), x -> x.carry(7));
            check.same("31 of 31, helper " + h, 15, lateCarriers(h, 31, 1).carry(7));
        }
    }

    private static void carriersWalk(Checks check) {
        CaveRelay x = Caves.atStretcher(2, 2, 4);
        x.carry(0b1011);
        check.helper("walks", x, 0, 600, 2, 1, 1, 6, NONE, 4, 4, 1);
        check.helper("stands", x, 2, 600, 2, 0, NONE, 0, NONE, 4, 4, 0);
        check.helper("walks", x, 3, 600, 2, 1, 1, 6, NONE, 4, 4, 1);
        check.same("walkers", 3, x.passage(1, 3));
        check.same("does not stand", 1, x.why(3, 1));
        x.pass(6);
        check.helper("stands", x, 3, 600, 1, 0, NONE, 0, NONE, 16, 10, 0);
    }

    // ---- rigging

    private static void rigAtTheUpperEnd(Checks check) {
        check.same("at the upper end", 1, Caves.aboveAPitch(2, 1).rig(0));
        check.notNow("has no rope", () -> {
            CaveRelay x = Caves.aboveAPitch(2, 1);
            x.lay(0);
            return x;
        }, x -> x.rig(0));
        check.notNow("walks", () -> {
            CaveRelay x = Caves.aboveAPitch(2, 1);
            x.go(0, 0);
            return x;
        }, x -> x.rig(0));
        check.notNow("a crawl", () -> {
            CaveRelay x = Caves.aboveAPitch(2, 1);
            x.setPassage(1, 0, 2);
            return x;
        }, x -> x.rig(0));
        check.same("a drop of 1", 0, withRope(1, 0, 1, 10).rig(0));
        check.notNow("at the lower end", () -> {
            CaveRelay x = withRope(2, 0, 0, 80);
            Caves.walkDown(x, 1, 1);
            x.setPassage(0, 20, 2);
            return x;
        }, x -> x.rig(0));
        check.notNow("at the lowest station", () -> {
            CaveRelay x = withRope(1, 0, 0, 80);
            Caves.walkDown(x, 1, 1);
            x.setPassage(0, 20, 2);
            return x;
        }, x -> x.rig(0));
    }

    /** Helper 0 with a rope at the surface. */
    private static CaveRelay withRope(int passages, int passage, int drop, int length) {
        CaveRelay x = Caves.crawls(passages, 2);
        x.setPassage(passage, drop, 2);
        x.addRope(length);
        x.addHelper(600);
        x.take(0, 0);
        return x;
    }

    /** Two helpers with a rope each above the same pitch; helper 0 began to rig some minutes before. */
    private static CaveRelay twoRiggers(int minutes) {
        CaveRelay x = withRope(1, 0, 20, 80);
        x.addRope(70);
        x.addHelper(600);
        x.take(1, 1);
        x.rig(0);
        if (minutes > 0) {
            x.pass(minutes);
        }
        return x;
    }

    private static void rigOnce(Checks check) {
        for (int minutes : new int[] {0, 9}) {
            check.notNow("helper 0 is rigging it", () -> twoRiggers(minutes), x -> x.rig(1));
            check.notNow("rigs already", () -> twoRiggers(minutes), x -> x.rig(0));
        }
        check.notNow("rigged", () -> twoRiggers(10), x -> x.rig(1));
        CaveRelay x = twoRiggers(10);
        x.takeOff(0);
        check.same("taken off", 0, x.rig(1));
        CaveRelay y = Caves.crawls(3, 2);
        y.setPassage(1, 20, 2);
        y.setPassage(0, 0, 2);
        y.addRope(80);
        y.addRope(80);
        Caves.addHelpers(y, 2, 600);
        y.take(0, 0);
        y.take(1, 1);
        Caves.walkDown(y, 1, 1);
        y.rig(0);
        y.setPassage(0, 20, 2);
        check.same("another one is being rigged", 0, y.rig(1));
        check.same("two rig", 1, y.passage(0, 4));
        check.same("two rig", 0, y.passage(1, 4));
    }

    private static void rigLongEnough(Checks check) {
        int[][] enough = {{1, 10}, {7, 10}, {8, 11}, {20, 23}, {59, 62}, {60, 63}, {60, 80}};
        for (int[] pair : enough) {
            check.same("drop " + pair[0] + ", length " + pair[1], 0, withRope(1, 0, pair[0], pair[1]).rig(0));
        }
        int[][] tooShort = {{8, 10}, {9, 10}, {20, 22}, {59, 61}, {60, 62}, {60, 10}};
        for (int[] pair : tooShort) {
            check.notNow("drop " + pair[0] + ", length " + pair[1], () -> withRope(1, 0, pair[0], pair[1]),
                    x -> x.rig(0));
        }
    }

    /** Helper 0 at station 1 with a rope, above a pitch and below a crawl of 2 minutes. */
    private static CaveRelay rigLate(int limit, int minutesBelow) {
        CaveRelay x = Caves.crawls(2, 2);
        x.setPassage(1, 20, 2);
        x.addRope(80);
        x.addHelper(limit);
        x.take(0, 0);
        Caves.walkDown(x, 1, 1);
        x.pass(minutesBelow - 2);
        return x;
    }

    private static void rigInTime(Checks check) {
        check.same("18, 10 and 2 of 30", 1, rigLate(30, 18).rig(0));
        check.notNow("19, 10 and 2 of 30", () -> rigLate(30, 19), x -> x.rig(0));
        check.same("19, 10 and 2 of 31", 1, rigLate(31, 19).rig(0));
        CaveRelay x = rigLate(30, 18);
        x.rig(0);
        x.pass(10);
        check.helper("up in time", x, 0, 30, 1, 0, NONE, 0, NONE, 2, 28, 0);
        x.pass(2);
        check.helper("up in time", x, 0, 30, 0, 0, NONE, 0, NONE, 4, 0, 0);
        check.same("not too late", 0, x.value(13));
        CaveRelay surface = withRope(1, 0, 20, 80);
        surface.pass(600);
        check.same("at the surface nothing counts", 0, surface.rig(0));
    }

    private static void rigTakesTenMinutes(Checks check) {
        CaveRelay x = Caves.rigging(2, 1);
        check.helper("10 to go", x, 0, 600, 1, 2, NONE, 10, 0);
        x.pass(9);
        check.helper("1 to go", x, 0, 600, 1, 2, NONE, 1, 0);
        check.passage("not yet", x, 1, 20, 2, NONE, 0, 0);
        check.rope("not yet", x, 0, 80, 1, 0);
        x.pass(1);
        check.helper("rigged", x, 0, 600, 1, 0, NONE, 0, NONE);
        check.passage("rigged", x, 1, 20, 2, 0, 0, NONE);
        check.rope("rigged", x, 0, 80, 2, 1);
    }

    private static void takeOffAtTheUpperEnd(Checks check) {
        check.same("at the upper end", 0, Caves.riggedPitch(20, 2, 1, 100).takeOff(0));
        check.notNow("at the lower end", () -> {
            CaveRelay x = Caves.riggedPitch(20, 2, 2, 100);
            x.go(1, 1);
            x.pass(2);
            return x;
        }, x -> x.takeOff(1));
        check.notNow("walks from the upper end", () -> {
            CaveRelay x = Caves.rigging(2, 1);
            x.pass(10);
            x.go(0, 0);
            return x;
        }, x -> x.takeOff(0));
        check.notNow("one passage too high", () -> {
            CaveRelay x = Caves.rigging(2, 1);
            x.pass(10);
            x.go(0, 0);
            x.pass(2);
            return x;
        }, x -> x.takeOff(0));
        check.notNow("rigs the next one", DeedEdges::rigsBelowARigged, x -> x.takeOff(0));
    }

    /** Helper 0 rigged passage 0, went down with another rope, and rigs passage 1. */
    private static CaveRelay rigsBelowARigged() {
        CaveRelay x = Caves.riggedPitch(20, 2, 1, 600);
        x.begin(2);
        x.setPassage(0, 20, 2);
        x.addRope(80);
        x.addRope(70);
        x.addHelper(600);
        x.take(0, 0);
        x.rig(0);
        x.pass(10);
        x.take(0, 1);
        Caves.walkDown(x, 1, 1);
        x.rig(0);
        return x;
    }

    private static void takeOffWithoutRope(Checks check) {
        check.notNow("has a rope", () -> {
            CaveRelay x = Caves.riggedPitch(20, 2, 1, 100);
            x.addRope(10);
            x.take(0, 1);
            return x;
        }, x -> x.takeOff(0));
        CaveRelay x = Caves.riggedPitch(20, 2, 1, 100);
        x.addRope(10);
        x.take(0, 1);
        x.lay(0);
        check.same("has laid it", 0, x.takeOff(0));
        check.notNow("has taken it off", () -> {
            CaveRelay y = Caves.riggedPitch(20, 2, 1, 100);
            y.takeOff(0);
            return y;
        }, y -> y.takeOff(0));
    }

    private static CaveRelay onThePitch(int to) {
        CaveRelay x = Caves.riggedPitch(20, 2, 4, 100);
        Caves.walkDown(x, 1, 1);
        x.go(to == 0 ? 0 : 1, to);
        x.pass(1);
        return x;
    }

    private static void takeOffNobodyWalks(Checks check) {
        check.notNow("one walks down", () -> onThePitch(1), x -> x.takeOff(2));
        check.notNow("one walks up", () -> onThePitch(0), x -> x.takeOff(2));
        check.notNow("some carry", () -> {
            CaveRelay x = Caves.riggedPitch(20, 2, 4, 100);
            Caves.walkDown(x, 3, 1);
            x.carry(7);
            return x;
        }, x -> x.takeOff(3));
        CaveRelay x = onThePitch(1);
        x.pass(1);
        check.same("down", 0, x.takeOff(2));
        check.helper("has it", x, 2, 100, 0, 0, NONE, 0, 0);
        check.rope("with the helper", x, 0, 80, 1, 2);
        check.passage("not rigged", x, 0, 20, 2, NONE, 0, NONE);
        CaveRelay y = Caves.crawls(2, 2);
        y.setPassage(1, 20, 2);
        y.addRope(80);
        Caves.addHelpers(y, 2, 100);
        y.take(0, 0);
        Caves.walkDown(y, 1, 1);
        y.rig(0);
        y.pass(10);
        y.go(1, 1);
        check.same("one walks through another passage", 0, y.takeOff(0));
    }

    // ---- promises 7 to 9

    private static void goUndone(Checks check) {
        Undoing.once(check, "go down", () -> Caves.standing(2, 1), x -> x.go(0, 2));
        Undoing.once(check, "go up", () -> Caves.standing(2, 1), x -> x.go(0, 0));
    }

    private static CaveRelay sixAtASurface() {
        CaveRelay x = Caves.crawls(1, 2);
        Caves.addHelpers(x, 6, 600);
        return x;
    }

    private static void goFirstAndLast(Checks check) {
        CaveRelay x = sixAtASurface();
        x.go(0, 1);
        x.go(5, 1);
        check.same("two walk", 2, x.passage(0, 3));
        check.same("the first", 1, x.helper(0, 2));
        check.same("the second stands", 0, x.helper(1, 2));
        check.same("the last", 1, x.helper(5, 2));
    }

    private static void goLowestAndSurface(Checks check) {
        CaveRelay x = Caves.standing(7, 6);
        x.go(0, 7);
        x.pass(2);
        check.helper("at the lowest one", x, 0, 600, 7, 0);
        CaveRelay y = Caves.standing(7, 1);
        y.go(0, 0);
        y.pass(2);
        check.helper("at the surface", y, 0, 600, 0, 0);
    }

    private static void goReturns(Checks check) {
        CaveRelay x = Caves.crawls(2, 1);
        x.setPassage(1, 0, 30);
        x.addHelper(600);
        check.same("1 minute", 1, x.go(0, 1));
        x.pass(1);
        check.same("30 minutes", 30, x.go(0, 2));
        x.pass(30);
        check.same("30 minutes up", 30, x.go(0, 1));
        CaveRelay y = Caves.riggedPitch(60, 7, 1, 600);
        check.same("7 minutes of a pitch", 7, y.go(0, 1));
        y.pass(7);
        check.same("7 minutes up a pitch, whose effort is 14", 7, y.go(0, 0));
    }

    private static void goNoHelper(Checks check) {
        check.noIndex("no helpers", CaveRelay::new, x -> x.go(0, 1));
        for (int helper : new int[] {LEAST, -1, 6, 7, MOST}) {
            check.noIndex("helper " + helper + " of 6", DeedEdges::sixAtASurface, x -> x.go(helper, 1));
            check.noIndex("helper " + helper + " of 6, to no station", DeedEdges::sixAtASurface,
                    x -> x.go(helper, -1));
        }
        check.noIndex("helper 1 of 1", () -> Caves.standing(2, 1), x -> x.go(1, 0));
    }

    private static void goRefused(Checks check) {
        check.notNow("1", () -> Caves.walking(3, 1, 2), x -> x.go(0, 2));
        check.notNow("2 above station 0", () -> Caves.standing(2, 0), x -> x.go(0, -1));
        check.notNow("2 below the lowest one", () -> Caves.standing(2, 2), x -> x.go(0, 3));
        check.notNow("2 not beside", () -> Caves.standing(2, 0), x -> x.go(0, 2));
        check.notNow("2 stands there", () -> Caves.standing(2, 1), x -> x.go(0, 1));
        check.notNow("3", () -> Caves.aboveAPitch(2, 1), x -> x.go(0, 2));
        check.notNow("4", () -> Caves.tired(100), x -> x.go(0, 0));
        check.notNow("5", () -> {
            CaveRelay x = Caves.crawls(1, 16);
            x.addHelper(30);
            return x;
        }, x -> x.go(0, 1));
    }

    private static CaveRelay ropesAndHelpers() {
        CaveRelay x = Caves.ropes(8);
        Caves.addHelpers(x, 6, 600);
        return x;
    }

    private static void takeUndone(Checks check) {
        Undoing.once(check, "take", DeedEdges::ropesAndHelpers, x -> x.take(3, 4));
    }

    private static void takeFirstAndLastHelper(Checks check) {
        CaveRelay x = ropesAndHelpers();
        x.take(0, 3);
        x.take(5, 4);
        check.rope("with the first", x, 3, 23, 1, 0);
        check.rope("with the last", x, 4, 24, 1, 5);
        check.same("the first has it", 3, x.helper(0, 5));
        check.same("another has none", NONE, x.helper(1, 5));
        check.same("the last has it", 4, x.helper(5, 5));
    }

    private static void takeFirstAndLastRope(Checks check) {
        CaveRelay x = ropesAndHelpers();
        x.take(3, 0);
        x.take(4, 7);
        check.rope("the first", x, 0, 20, 1, 3);
        check.rope("another", x, 1, 21, 0, 0);
        check.rope("the last", x, 7, 27, 1, 4);
        check.same("the first", 0, x.helper(3, 5));
        check.same("the last", 7, x.helper(4, 5));
    }

    private static void takeReturns(Checks check) {
        CaveRelay x = new CaveRelay();
        x.addRope(10);
        x.addRope(80);
        Caves.addHelpers(x, 2, 100);
        check.same("the shortest", 10, x.take(1, 0));
        check.same("the longest", 80, x.take(0, 1));
    }

    private static void takeNoSuch(Checks check) {
        for (int helper : new int[] {LEAST, -1, 6, MOST}) {
            check.noIndex("helper " + helper, DeedEdges::ropesAndHelpers, x -> x.take(helper, 0));
        }
        for (int rope : new int[] {LEAST, -1, 8, MOST}) {
            check.noIndex("rope " + rope, DeedEdges::ropesAndHelpers, x -> x.take(0, rope));
            check.noIndex("rope " + rope + ", and has one", () -> {
                CaveRelay x = ropesAndHelpers();
                x.take(0, 0);
                return x;
            }, x -> x.take(0, rope));
        }
        check.noIndex("rope 2 of 2, and walks", () -> {
            CaveRelay x = Caves.ropes(2);
            x.addHelper(100);
            x.go(0, 1);
            return x;
        }, x -> x.take(0, 2));
        check.noIndex("no ropes", () -> Caves.helpers(1), x -> x.take(0, 0));
        check.noIndex("no helpers", () -> Caves.ropes(1), x -> x.take(0, 0));
    }

    private static void takeNotStanding(Checks check) {
        check.notNow("walks from there", () -> {
            CaveRelay x = Caves.ropes(2);
            x.addHelper(100);
            x.go(0, 1);
            return x;
        }, x -> x.take(0, 0));
        check.notNow("rigs", () -> {
            CaveRelay x = Caves.rigging(1, 0);
            x.addRope(10);
            return x;
        }, x -> x.take(0, 1));
        check.same("has rigged", 10, afterRigging().take(0, 1));
    }

    private static CaveRelay afterRigging() {
        CaveRelay x = Caves.rigging(1, 0);
        x.addRope(10);
        x.pass(10);
        return x;
    }

    private static void takeHasOne(Checks check) {
        check.notNow("has rope 1", () -> {
            CaveRelay x = Caves.ropes(2);
            x.addHelper(100);
            x.take(0, 1);
            return x;
        }, x -> x.take(0, 0));
        check.notNow("has rope 0", () -> {
            CaveRelay x = Caves.ropes(2);
            x.addHelper(100);
            x.take(0, 0);
            return x;
        }, x -> x.take(0, 1));
    }

    private static void takeNotThere(Checks check) {
        check.notNow("lies above", () -> {
            CaveRelay x = Caves.standing(2, 1);
            x.addRope(10);
            return x;
        }, x -> x.take(0, 0));
        check.notNow("lies below", () -> {
            CaveRelay x = Caves.aboveAPitch(2, 1);
            x.lay(0);
            x.go(0, 0);
            x.pass(2);
            return x;
        }, x -> x.take(0, 0));
        check.notNow("another has it", () -> {
            CaveRelay x = Caves.ropes(1);
            Caves.addHelpers(x, 2, 100);
            x.take(0, 0);
            return x;
        }, x -> x.take(1, 0));
        check.notNow("the helper has it", () -> {
            CaveRelay x = Caves.ropes(1);
            x.addHelper(100);
            x.take(0, 0);
            return x;
        }, x -> x.take(0, 0));
        check.notNow("rigged there", () -> Caves.riggedPitch(20, 2, 1, 100), x -> x.take(0, 0));
        check.notNow("with helper 1, asked at station 1", () -> {
            CaveRelay x = Caves.ropes(1);
            Caves.addHelpers(x, 2, 100);
            x.take(1, 0);
            x.go(0, 1);
            x.pass(5);
            return x;
        }, x -> x.take(0, 0));
    }

    private static void layUndone(Checks check) {
        Undoing.once(check, "lay", () -> Caves.aboveAPitch(2, 1), x -> x.lay(0));
    }

    private static CaveRelay sixWithRopes() {
        CaveRelay x = ropesAndHelpers();
        for (int h = 0; h < 6; h++) {
            x.take(h, 7 - h);
        }
        return x;
    }

    private static void layFirstAndLast(Checks check) {
        CaveRelay x = sixWithRopes();
        x.lay(0);
        x.lay(5);
        check.same("the first", NONE, x.helper(0, 5));
        check.same("another", 6, x.helper(1, 5));
        check.same("the last", NONE, x.helper(5, 5));
        CaveRelay y = Caves.standing(7, 0);
        y.addRope(10);
        y.take(0, 0);
        Caves.walkDown(y, 1, 7);
        y.lay(0);
        check.rope("at the lowest station", y, 0, 10, 0, 7);
    }

    private static void layReturns(Checks check) {
        CaveRelay x = sixWithRopes();
        check.same("the last rope", 7, x.lay(0));
        check.same("rope 2", 2, x.lay(5));
        x.take(5, 0);
        check.same("the first rope", 0, x.lay(5));
    }

    private static void layNoHelper(Checks check) {
        for (int helper : new int[] {LEAST, -1, 6, MOST}) {
            check.noIndex("helper " + helper, DeedEdges::sixWithRopes, x -> x.lay(helper));
        }
        check.noIndex("no helpers", CaveRelay::new, x -> x.lay(0));
    }

    private static void layNotStanding(Checks check) {
        check.notNow("walks", () -> {
            CaveRelay x = sixWithRopes();
            x.go(3, 1);
            return x;
        }, x -> x.lay(3));
        check.notNow("rigs", () -> Caves.rigging(2, 1), x -> x.lay(0));
        check.notNow("rigs, nearly done", () -> Caves.later(Caves.rigging(2, 1), 9), x -> x.lay(0));
    }

    private static void layHasNone(Checks check) {
        check.notNow("has none", () -> Caves.helpers(1), x -> x.lay(0));
        check.notNow("has laid it", () -> {
            CaveRelay x = sixWithRopes();
            x.lay(4);
            return x;
        }, x -> x.lay(4));
        check.notNow("has rigged it", () -> Caves.later(Caves.rigging(2, 1), 10), x -> x.lay(0));
    }

    // ---- promises 10 and 11

    private static void rigUndone(Checks check) {
        Undoing.once(check, "rig", () -> Caves.aboveAPitch(2, 1), x -> x.rig(0));
    }

    private static CaveRelay sixAtAPitch() {
        CaveRelay x = sixWithRopes();
        x.setPassage(0, 1, 5);
        return x;
    }

    private static void rigFirstAndLast(Checks check) {
        for (int helper : new int[] {0, 5}) {
            CaveRelay x = sixAtAPitch();
            x.rig(helper);
            check.passage("rigged by " + helper, x, 0, 1, 5, NONE, 0, helper);
            x.pass(10);
            check.passage("rigged", x, 0, 1, 5, 7 - helper, 0, NONE);
        }
    }

    private static void rigReturns(Checks check) {
        check.same("the first", 0, Caves.aboveAPitch(7, 0).rig(0));
        check.same("another", 3, Caves.aboveAPitch(7, 3).rig(0));
        check.same("the last", 6, Caves.aboveAPitch(7, 6).rig(0));
    }

    private static void rigNoHelper(Checks check) {
        for (int helper : new int[] {LEAST, -1, 6, MOST}) {
            check.noIndex("helper " + helper, DeedEdges::sixAtAPitch, x -> x.rig(helper));
        }
        check.noIndex("no helpers", CaveRelay::new, x -> x.rig(0));
    }

    private static void rigNotPossible(Checks check) {
        check.notNow("does not stand", () -> Caves.rigging(2, 1), x -> x.rig(0));
        check.notNow("has no rope", () -> Caves.riggedPitch(20, 2, 2, 100), x -> x.rig(1));
        check.notNow("a crawl", () -> withRope(1, 0, 0, 80), x -> x.rig(0));
        check.notNow("no passage below", () -> {
            CaveRelay x = withRope(7, 0, 0, 80);
            Caves.walkDown(x, 1, 7);
            return x;
        }, x -> x.rig(0));
        check.notNow("rigged", () -> twoRiggers(10), x -> x.rig(1));
        check.notNow("another is rigging it", () -> twoRiggers(0), x -> x.rig(1));
        check.notNow("too short", () -> withRope(1, 0, 20, 22), x -> x.rig(0));
        check.notNow("not in time", () -> rigLate(30, 19), x -> x.rig(0));
    }

    private static void takeOffUndone(Checks check) {
        Undoing.once(check, "takeOff", () -> Caves.riggedPitch(20, 2, 2, 100), x -> x.takeOff(1));
    }

    private static void takeOffFirstAndLast(Checks check) {
        for (int helper : new int[] {0, 5}) {
            CaveRelay x = Caves.riggedPitch(20, 2, 6, 100);
            x.takeOff(helper);
            check.rope("with helper " + helper, x, 0, 80, 1, helper);
            check.same("has it", 0, x.helper(helper, 5));
        }
        CaveRelay lowest = Caves.later(Caves.rigging(7, 6), 10);
        check.same("of the lowest passage", 0, lowest.takeOff(0));
    }

    private static void takeOffReturns(Checks check) {
        CaveRelay x = sixAtAPitch();
        x.rig(0);
        x.pass(10);
        check.same("the last rope", 7, x.takeOff(0));
        CaveRelay y = sixAtAPitch();
        y.lay(5);
        y.take(5, 0);
        y.rig(5);
        y.pass(10);
        check.same("the first rope", 0, y.takeOff(5));
    }

    private static void takeOffNoHelper(Checks check) {
        for (int helper : new int[] {LEAST, -1, 2, MOST}) {
            check.noIndex("helper " + helper + " of 2", () -> Caves.riggedPitch(20, 2, 2, 100),
                    x -> x.takeOff(helper));
        }
        check.noIndex("no helpers", CaveRelay::new, x -> x.takeOff(0));
    }

    private static void takeOffNotRigged(Checks check) {
        check.notNow("a crawl", () -> Caves.standing(2, 1), x -> x.takeOff(0));
        check.notNow("a pitch that is not rigged", () -> {
            CaveRelay x = Caves.standing(2, 1);
            x.setPassage(1, 20, 2);
            return x;
        }, x -> x.takeOff(0));
        check.notNow("one that another is rigging", () -> {
            CaveRelay x = Caves.rigging(1, 0);
            x.addHelper(100);
            return x;
        }, x -> x.takeOff(1));
        check.notNow("no passage below", () -> Caves.standing(2, 2), x -> x.takeOff(0));
        check.notNow("no passage below 7", () -> Caves.standing(7, 7), x -> x.takeOff(0));
    }

    private static void takeOffNotPossible(Checks check) {
        check.notNow("has a rope", () -> {
            CaveRelay x = Caves.riggedPitch(20, 2, 2, 100);
            x.addRope(10);
            x.take(1, 1);
            return x;
        }, x -> x.takeOff(1));
        check.notNow("one walks through it", () -> onThePitch(1), x -> x.takeOff(3));
        check.notNow("walks itself", () -> onThePitch(1), x -> x.takeOff(1));
        check.notNow("rigs", () -> Caves.rigging(1, 0), x -> x.takeOff(0));
        check.notNow("walks away from it", () -> {
            CaveRelay x = Caves.later(Caves.rigging(3, 1), 10);
            x.go(0, 0);
            return x;
        }, x -> x.takeOff(0));
    }

    // ---- promises 12 and 13

    private static void carryUndone(Checks check) {
        Undoing.once(check, "carry", () -> Caves.atStretcher(2, 1, 4), x -> x.carry(7));
    }

    private static void carryBits(Checks check) {
        for (int team : new int[] {0b000111, 0b111000, 0b010101, 0b101010, 0b100011, 0b111111}) {
            CaveRelay x = Caves.atStretcher(1, 1, 6);
            x.carry(team);
            for (int h = 0; h < 6; h++) {
                check.same("helper " + h + " of " + team, team >> h & 1, x.helper(h, 8));
            }
            check.same("the log", team, x.carried(0, 2));
        }
    }

    private static void carryReturns(Checks check) {
        check.same("3 minutes", 3, Caves.atStretcher(1, 1, 3).carry(7));
        check.same("42 minutes", 42, Caves.atStretcher(1, 14, 3).carry(7));
        CaveRelay x = Caves.atStretcher(2, 1, 3);
        x.setPassage(0, 0, 9);
        check.same("of the passage above", 3, x.carry(7));
        x.pass(3);
        check.same("of the next one", 27, x.carry(7));
    }

    private static void carryNoHelper(Checks check) {
        check.badArgument("helper 3 of 3", () -> Caves.atStretcher(1, 1, 3), x -> x.carry(0b1111));
        check.badArgument("helper 3 of 3, and not 0", () -> Caves.atStretcher(1, 1, 3), x -> x.carry(0b1110));
        check.badArgument("helper 5 of 5", () -> Caves.atStretcher(1, 1, 5), x -> x.carry(0b100111));
        for (int bit = 6; bit < 32; bit++) {
            int team = 0b111111 | 1 << bit;
            check.badArgument("bit " + bit, () -> Caves.atStretcher(1, 1, 6), x -> x.carry(team));
        }
        for (int team : new int[] {-1, LEAST, LEAST | 7, MOST, 1 << 6, 0b111000000}) {
            check.badArgument("set " + team, () -> Caves.atStretcher(1, 1, 6), x -> x.carry(team));
        }
        check.badArgument("no helpers at all", CaveRelay::new, x -> x.carry(7));
        check.badArgument("carried already, and bit 6", Caves::carrying, x -> x.carry(0b1000111));
        check.badArgument("at the surface, and bit 6", DeedEdges::stretcherUp, x -> x.carry(0b1000111));
    }

    private static void carryTooFew(Checks check) {
        for (int team = 0; team < 64; team++) {
            int set = team;
            if (Integer.bitCount(set) < 3) {
                check.badArgument("set " + set, () -> Caves.atStretcher(1, 1, 6), x -> x.carry(set));
            } else {
                check.same("set " + set, 3, Caves.atStretcher(1, 1, 6).carry(set));
            }
        }
        check.badArgument("carried already, and two", Caves::carrying, x -> x.carry(3));
        check.badArgument("two helpers, no more", () -> Caves.atStretcher(1, 1, 2), x -> x.carry(3));
    }

    private static CaveRelay threeCarrySixThere(int minutes) {
        CaveRelay x = Caves.atStretcher(2, 1, 6);
        x.carry(7);
        if (minutes > 0) {
            x.pass(minutes);
        }
        return x;
    }

    private static void carryCarried(Checks check) {
        for (int minutes : new int[] {0, 2}) {
            check.notNow("by others", () -> threeCarrySixThere(minutes), x -> x.carry(0b111000));
            check.notNow("by them", () -> threeCarrySixThere(minutes), x -> x.carry(0b000111));
        }
        check.notNow("it lies above now", () -> threeCarrySixThere(3), x -> x.carry(0b111000));
        check.same("by them, on", 3, threeCarrySixThere(3).carry(0b000111));
    }

    private static void carryAtTheSurface(Checks check) {
        check.notNow("those who carried it", DeedEdges::stretcherUp, x -> x.carry(0b000111));
        check.notNow("others", DeedEdges::stretcherUp, x -> x.carry(0b111000));
        check.notNow("some below", () -> {
            CaveRelay x = stretcherUp();
            for (int h = 0; h < 3; h++) {
                x.go(h, 1);
            }
            x.pass(1);
            return x;
        }, x -> x.carry(0b000111));
    }

    private static void carryNotStanding(Checks check) {
        for (int h = 0; h < 4; h++) {
            int away = h;
            check.notNow("helper " + h + " walks", () -> {
                CaveRelay x = Caves.atStretcher(2, 3, 4);
                x.go(away, 1);
                return x;
            }, x -> x.carry(0b1111));
            check.notNow("helper " + h + " is above", () -> {
                CaveRelay x = Caves.atStretcher(2, 3, 4);
                x.go(away, 1);
                x.pass(3);
                return x;
            }, x -> x.carry(0b1111));
        }
        check.notNow("one rigs there", DeedEdges::riggerAtTheStretcher, x -> x.carry(0b1111));
        check.same("the others", 3, riggerAtTheStretcher().carry(0b0111));
        check.notNow("they are all at the surface", DeedEdges::sixAtASurface, x -> x.carry(0b111));
    }

    /** The stretcher lies at station 1 with four helpers; helper 3 rigs the passage below it. */
    private static CaveRelay riggerAtTheStretcher() {
        CaveRelay x = Caves.crawls(2, 1);
        x.addRope(80);
        Caves.addHelpers(x, 4, 600);
        x.take(3, 0);
        Caves.walkDown(x, 4, 2);
        x.carry(0b0111);
        x.go(3, 1);
        x.pass(3);
        x.setPassage(1, 20, 1);
        x.rig(3);
        return x;
    }

    private static void carryNotRigged(Checks check) {
        check.notNow("a drop of 1", () -> {
            CaveRelay x = Caves.atStretcher(1, 1, 3);
            x.setPassage(0, 1, 1);
            return x;
        }, x -> x.carry(7));
        check.notNow("being rigged", () -> {
            CaveRelay x = Caves.riggedPitch(20, 1, 4, 600);
            Caves.walkDown(x, 3, 1);
            x.takeOff(3);
            x.rig(3);
            x.pass(9);
            return x;
        }, x -> x.carry(7));
        CaveRelay x = Caves.riggedPitch(20, 1, 4, 600);
        Caves.walkDown(x, 3, 1);
        check.same("rigged", 3, x.carry(7));
        CaveRelay y = Caves.atStretcher(2, 1, 3);
        y.setPassage(0, 1, 1);
        check.same("a pitch further up", 3, y.carry(7));
    }

    /** The effort will be 90; the tiredness of one helper is 10 or 11, that of the others is 3. */
    private static CaveRelay oneIsTired(int helper, int tiredness) {
        CaveRelay x = Caves.crawls(1, 4);
        Caves.addHelpers(x, 3, 600);
        x.go(helper, 1);
        x.pass(4);
        x.setPassage(0, 0, tiredness - 7);
        x.go(helper, 0);
        x.pass(tiredness - 7);
        x.setPassage(0, 0, 3);
        Caves.walkDown(x, 3, 1);
        x.setPassage(0, 0, 15);
        return x;
    }

    private static void carryTired(Checks check) {
        for (int h = 0; h < 3; h++) {
            int helper = h;
            check.same("the tiredness of helper " + h, 10, oneIsTired(h, 10).helper(h, 6));
            check.same("10 and 90 of helper " + h, 45, oneIsTired(h, 10).carry(7));
            check.notNow("11 and 90 of helper " + h, () -> oneIsTired(helper, 11), x -> x.carry(7));
        }
        CaveRelay x = Caves.atStretcher(1, 10, 3);
        x.setPassage(0, 0, 15);
        check.same("10 and 90 of all", 45, x.carry(7));
        check.notNow("11 and 90 of all", () -> {
            CaveRelay y = Caves.atStretcher(1, 11, 3);
            y.setPassage(0, 0, 15);
            return y;
        }, y -> y.carry(7));
    }

    private static void carryLate(Checks check) {
        for (int h = 0; h < 3; h++) {
            int helper = h;
            check.same("33 of 33, helper " + h, 15, lateCarriers(h, 33, 3).carry(7));
            check.notNow("33 of 32, helper " + h, () -> lateCarriers(helper, 32, 3), x -> x.carry(7));
        }
    }

    private static void sendUndone(Checks check) {
        Undoing.once(check, "send", () -> Caves.standing(3, 2), x -> x.send(0));
        Undoing.once(check, "send from the surface", () -> Caves.standing(3, 0), x -> x.send(0));
    }

    private static void sendFirstAndLast(Checks check) {
        CaveRelay x = Caves.atStretcher(2, 1, 6);
        x.send(5);
        x.send(0);
        check.message("of the last", x, 0, 5, 2, 2);
        check.message("of the first", x, 1, 0, 2, 2);
    }

    private static CaveRelay tenMessages() {
        CaveRelay x = Caves.standing(3, 3);
        x.addHelper(600);
        for (int i = 0; i < 10; i++) {
            x.send(0);
        }
        return x;
    }

    private static void sendReturns(Checks check) {
        CaveRelay x = Caves.standing(3, 3);
        x.addHelper(600);
        check.same("from the surface, none is on its way", 0, x.send(1));
        for (int i = 1; i <= 10; i++) {
            check.same("one more", i, x.send(0));
        }
        check.same("from the surface, 10 are", 10, x.send(1));
        x.pass(3);
        check.same("all came", 1, x.send(0));
    }

    private static void sendNoHelper(Checks check) {
        check.noIndex("no helpers", CaveRelay::new, x -> x.send(0));
        for (int helper : new int[] {LEAST, -1, 2, MOST}) {
            check.noIndex("helper " + helper + " of 2, and 10 are on their way", DeedEdges::tenMessages,
                    x -> x.send(helper));
        }
    }

    private static void sendNotStanding(Checks check) {
        check.notNow("walks from the surface", () -> Caves.walking(2, 0, 1), x -> x.send(0));
        check.notNow("walks to the surface", () -> Caves.walking(2, 1, 0), x -> x.send(0));
        check.notNow("rigs", () -> Caves.rigging(2, 1), x -> x.send(0));
        check.notNow("rigs at the surface", () -> Caves.rigging(2, 0), x -> x.send(0));
        check.notNow("carries", Caves::carrying, x -> x.send(1));
    }

    private static void sendEleventh(Checks check) {
        check.notNow("an eleventh", DeedEdges::tenMessages, x -> x.send(0));
        CaveRelay x = tenMessages();
        check.same("from the surface it is counted at once", 10, x.send(1));
        check.same("counted", 1, x.value(8));
        CaveRelay y = tenMessages();
        y.go(1, 1);
        y.pass(2);
        check.same("10 are on their way", 10, y.value(7));
        check.notNow("an eleventh from station 1", () -> {
            CaveRelay z = tenMessages();
            z.go(1, 1);
            z.pass(2);
            return z;
        }, z -> z.send(1));
        y.pass(1);
        check.same("they came", 1, y.send(1));
    }
}
