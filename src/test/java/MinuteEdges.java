/** Edges of the minute that passes, of the terms "Messages" and "Log", and of promise 14. */
final class MinuteEdges {
    private static final int NONE = CaveRelay.NONE;
    private static final int LEAST = Integer.MIN_VALUE;
    private static final int MOST = Integer.MAX_VALUE;

    private MinuteEdges() {
    }

    static void all(Edges e) {
        minutes(e);
        messagesAndLog(e);
        promise14(e);
    }

    private static void minutes(Edges e) {
        e.term("When a minute passes, for each helper in ascending order, all of this for one helper ahead of the next",
                MinuteEdges::oneHelperAheadOfTheNext);
        e.term("One who stands below, and would not be in time there after 1 minute", MinuteEdges::turnsInTime);
        e.term("One who stands below", MinuteEdges::turnsOnlyWhenStandingBelow);
        e.term("if this is not refused (as by a call)", MinuteEdges::turnRefused);
        e.term("One who walks or rigs (now) has one minute less to go.", MinuteEdges::oneMinuteLess);
        e.term("increases by the effort in this minute: 1, or 2 up a pitch or carrying", MinuteEdges::effortOfAMinute);
        e.term("With no minute to go any more one who walks stands at the other station", MinuteEdges::arrives);
        e.term("(and the stretcher lies there then, with those who carried it)", MinuteEdges::stretcherArrives);
        e.term("one who rigs has rigged, and has no rope any more", MinuteEdges::hasRigged);
        e.term("ahead of this minute (rigging is not standing) falls by 1", MinuteEdges::rests);
        e.term("falls by 1, not below 0", MinuteEdges::restsToNothing);
        e.term("The minutes below of one who is below, at the end of this, increase by 1", MinuteEdges::countsBelow);
        e.term("if they are greater than the limit then, this is a minute too late", MinuteEdges::tooLate);
        e.term("those of one who is not are 0", MinuteEdges::countsNothing);
        e.term("Then messages go up, and the time increases by 1.", MinuteEdges::timeIncreases);
    }

    private static void messagesAndLog(Edges e) {
        e.term("A helper who stands can send a message from there.", MinuteEdges::sendsFromThere);
        e.term("There are at most 10 on their way.", MinuteEdges::tenOnTheirWay);
        e.term("each of them goes up by one station, unless there is silence", MinuteEdges::oneStationUp);
        e.term("one that is at station 0 is there (at once, if it is sent there), and is counted",
                MinuteEdges::messageIsThere);
        e.term("in the minutes from a first one up to a last one (without it)", MinuteEdges::firstAndLastMinute);
        e.term("by the time ahead of the minute that passes", MinuteEdges::timeAheadOfTheMinute);
        e.term("initially there is none", MinuteEdges::initiallyNoSilence);
        e.term("Each carry is put into a log, with the time, the station from which it goes", MinuteEdges::logged);
        e.term("the latest 12 are kept", MinuteEdges::allThatCanBeAreKept);
    }

    private static void promise14(Edges e) {
        e.promise(14, "Lets minutes pass. Undoable.", MinuteEdges::passUndone);
        e.promise(14, "`minutes`: 1 to 600", MinuteEdges::passOneAndMost);
        e.promise(14, "Returns the number of messages that came to the surface in them.", MinuteEdges::passReturns);
        e.promise(14, "if minutes is out of range", MinuteEdges::passOutOfRange);
        e.promise(14, "if the time would be greater than 100000", MinuteEdges::passBeyondTheEnd);
    }

    // ---- the minute that passes

    /** One pitch; the rope of the one who rigs it is there in the 26th minute of the other one, who must go then. */
    private static CaveRelay riggerAnd(int rigger, int below) {
        CaveRelay x = Caves.crawls(1, 5);
        x.addRope(80);
        for (int h = 0; h < 2; h++) {
            x.addHelper(h == below ? 30 : 600);
        }
        x.take(rigger, 0);
        x.go(below, 1);
        x.pass(5);
        x.setPassage(0, 20, 5);
        x.pass(11);
        x.rig(rigger);
        x.pass(9);
        return x;
    }

    private static void oneHelperAheadOfTheNext(Checks check) {
        CaveRelay x = riggerAnd(0, 1);
        x.pass(1);
        check.helper("has rigged ahead of helper 1", x, 0, 600, 0, 0, NONE, 0, NONE);
        check.helper("goes in this minute", x, 1, 30, 1, 1, 0, 4, NONE, 7, 26, 0);
        CaveRelay y = riggerAnd(1, 0);
        y.pass(1);
        check.helper("has rigged behind helper 0", y, 1, 600, 0, 0, NONE, 0, NONE);
        check.helper("could not go in this minute", y, 0, 30, 1, 0, NONE, 0, NONE, 5, 26, 0);
        y.pass(1);
        check.helper("goes in the next one", y, 0, 30, 1, 1, 0, 4, NONE, 7, 27, 0);
    }

    /** A helper of the limit 30 at station 2, 10 minutes below and 10 from the surface. */
    private static CaveRelay mustTurn(int limit) {
        CaveRelay x = Caves.crawls(2, 5);
        x.addHelper(limit);
        Caves.walkDown(x, 1, 2);
        return x;
    }

    private static void turnsInTime(Checks check) {
        for (int limit : new int[] {30, 31, 45}) {
            CaveRelay x = mustTurn(limit);
            x.pass(limit - 20);
            check.helper("still in time", x, 0, limit, 2, 0, NONE, 0, NONE, 10, limit - 10, 0);
            x.pass(1);
            check.helper("goes", x, 0, limit, 2, 1, 1, 4, NONE, 11, limit - 9, 0);
            x.pass(4);
            check.helper("at station 1", x, 0, limit, 1, 0, NONE, 0, NONE, 15, limit - 5, 0);
            x.pass(1);
            check.helper("goes on", x, 0, limit, 1, 1, 0, 4, NONE, 16, limit - 4, 0);
            x.pass(4);
            check.helper("is up", x, 0, limit, 0, 0, NONE, 0, NONE, 20, 0, 0);
            check.same("and not too late", 0, x.value(13));
        }
    }

    private static void turnsOnlyWhenStandingBelow(Checks check) {
        CaveRelay surface = Caves.crawls(1, 30);
        surface.addHelper(30);
        surface.pass(100);
        check.helper("stands at the surface", surface, 0, 30, 0, 0, NONE, 0, NONE, 0, 0, 0);
        CaveRelay down = mustTurn(30);
        down.go(0, 1);
        down.pass(5);
        down.go(0, 2);
        down.setPassage(0, 0, 30);
        down.pass(4);
        check.helper("walks down all the same", down, 0, 30, 1, 1, 2, 1, NONE, 19, 19, 0);
        down.pass(1);
        check.helper("stands below", down, 0, 30, 2, 0, NONE, 0, NONE, 20, 20, 0);
        down.pass(1);
        check.helper("goes", down, 0, 30, 2, 1, 1, 4, NONE, 21, 21, 0);
        CaveRelay rigs = Caves.crawls(2, 5);
        rigs.setPassage(1, 20, 5);
        rigs.addRope(80);
        rigs.addHelper(30);
        rigs.take(0, 0);
        rigs.go(0, 1);
        rigs.pass(5);
        rigs.rig(0);
        rigs.setPassage(0, 0, 30);
        rigs.pass(9);
        check.helper("rigs all the same", rigs, 0, 30, 1, 2, NONE, 1, 0, 5, 14, 0);
        rigs.pass(1);
        check.helper("has rigged", rigs, 0, 30, 1, 0, NONE, 0, NONE, 5, 15, 0);
        rigs.pass(1);
        check.helper("goes", rigs, 0, 30, 1, 1, 0, 29, NONE, 6, 16, 0);
    }

    private static void turnRefused(Checks check) {
        CaveRelay pitch = mustTurn(30);
        pitch.setPassage(1, 1, 5);
        pitch.pass(11);
        check.helper("a pitch that is not rigged", pitch, 0, 30, 2, 0, NONE, 0, NONE, 10, 21, 0);
        pitch.setPassage(1, 0, 5);
        pitch.pass(1);
        check.helper("a crawl", pitch, 0, 30, 2, 1, 1, 4, NONE, 11, 22, 0);
        for (int more : new int[] {0, 1}) {
            CaveRelay tired = Caves.tired(80 + more);
            tired.setPassage(0, 0, 20);
            int stays = 600 - 20 - tired.helper(0, 7);
            tired.pass(stays);
            check.same("still in time", 0, tired.helper(0, 2));
            tired.pass(1);
            check.same(more == 0 ? "100 is not refused" : "101 is refused", 1 - more, tired.helper(0, 2));
        }
    }

    private static void oneMinuteLess(Checks check) {
        CaveRelay x = Caves.crawls(1, 30);
        x.addHelper(600);
        x.go(0, 1);
        for (int left = 30; left > 0; left--) {
            check.helper("walks", x, 0, 600, 0, 1, 1, left);
            x.pass(1);
        }
        check.helper("stands", x, 0, 600, 1, 0, NONE, 0);
        CaveRelay y = Caves.rigging(2, 1);
        for (int left = 10; left > 0; left--) {
            check.helper("rigs", y, 0, 600, 1, 2, NONE, left);
            y.pass(1);
        }
        check.helper("stands", y, 0, 600, 1, 0, NONE, 0);
        CaveRelay z = mustTurn(30);
        z.pass(11);
        check.same("one who has turned in this minute, too", 4, z.helper(0, 4));
    }

    private static void effortOfAMinute(Checks check) {
        CaveRelay pitch = Caves.riggedPitch(1, 5, 3, 600);
        pitch.go(0, 1);
        for (int minute = 1; minute <= 5; minute++) {
            pitch.pass(1);
            check.same("down a pitch", minute, pitch.helper(0, 6));
        }
        pitch.go(0, 0);
        for (int minute = 1; minute <= 5; minute++) {
            pitch.pass(1);
            check.same("up a pitch", 5 + 2 * minute, pitch.helper(0, 6));
        }
        CaveRelay crawl = Caves.crawls(1, 5);
        Caves.addHelpers(crawl, 4, 600);
        Caves.walkDown(crawl, 4, 1);
        check.same("down a crawl", 5, crawl.helper(3, 6));
        crawl.go(3, 0);
        crawl.carry(7);
        for (int minute = 1; minute <= 5; minute++) {
            crawl.pass(1);
            check.same("up a crawl", 5 + minute, crawl.helper(3, 6));
            for (int h = 0; h < 3; h++) {
                check.same("carrying up a crawl", 5 + 2 * minute, crawl.helper(h, 6));
            }
        }
        CaveRelay both = Caves.riggedPitch(60, 1, 3, 600);
        Caves.walkDown(both, 3, 1);
        both.carry(7);
        for (int minute = 1; minute <= 3; minute++) {
            both.pass(1);
            check.same("carrying up a pitch", 1 + 2 * minute, both.helper(0, 6));
            check.same("carrying up a pitch", 1 + 2 * minute, both.helper(2, 6));
        }
        CaveRelay rigs = Caves.later(Caves.rigging(2, 1), 10);
        check.same("rigging is no effort", 2, rigs.helper(0, 6));
    }

    private static void arrives(Checks check) {
        CaveRelay x = Caves.later(Caves.walking(7, 6, 7), 1);
        check.helper("a minute to go", x, 0, 600, 6, 1, 7, 1, NONE, 13, 13, 0);
        x.pass(1);
        check.helper("at the lowest station", x, 0, 600, 7, 0, NONE, 0, NONE, 14, 14, 0);
        CaveRelay y = Caves.later(Caves.walking(7, 1, 0), 1);
        check.helper("a minute to go", y, 0, 600, 1, 1, 0, 1, NONE, 3, 3, 0);
        y.pass(1);
        check.helper("at the surface", y, 0, 600, 0, 0, NONE, 0, NONE, 4, 0, 0);
    }

    private static void stretcherArrives(Checks check) {
        CaveRelay x = Caves.atStretcher(2, 2, 6);
        x.carry(0b101010);
        x.pass(5);
        check.same("still carried", 1, x.value(5));
        check.same("from station 2", 2, x.value(4));
        x.pass(1);
        check.same("lies", 0, x.value(5));
        check.same("at station 1", 1, x.value(4));
        for (int h = 0; h < 6; h++) {
            boolean carried = h % 2 == 1;
            check.helper("with those who carried it", x, h, 600, carried ? 1 : 2, 0, NONE, 0, NONE,
                    carried ? 16 : 4, 10, 0);
        }
        check.same("they can carry it on", 0b101010, x.team());
    }

    private static void hasRigged(Checks check) {
        CaveRelay x = Caves.later(Caves.rigging(2, 1), 9);
        check.helper("a minute to go", x, 0, 600, 1, 2, NONE, 1, 0, 2, 11, 0);
        check.rope("still with the helper", x, 0, 80, 1, 0);
        check.same("not rigged", NONE, x.passage(1, 2));
        check.same("a pitch that is not rigged", 1, x.value(10));
        x.pass(1);
        check.helper("stands, without rope", x, 0, 600, 1, 0, NONE, 0, NONE, 2, 12, 0);
        check.rope("rigged", x, 0, 80, 2, 1);
        check.passage("rigged", x, 1, 20, 2, 0, 0, NONE);
        check.same("all pitches are rigged", 0, x.value(10));
    }

    private static void rests(Checks check) {
        CaveRelay x = Caves.crawls(1, 5);
        x.addRope(80);
        x.addHelper(600);
        Caves.walkDown(x, 1, 1);
        x.pass(3);
        check.same("no rest below", 5, x.helper(0, 6));
        x.go(0, 0);
        x.pass(5);
        check.same("no rest in the minute of coming up", 10, x.helper(0, 6));
        x.pass(1);
        check.same("one minute of rest", 9, x.helper(0, 6));
        x.go(0, 1);
        x.pass(1);
        check.same("no rest in the minute of going", 10, x.helper(0, 6));
        x.pass(4);
        x.go(0, 0);
        x.pass(5);
        x.setPassage(0, 20, 5);
        x.take(0, 0);
        x.rig(0);
        x.pass(9);
        check.same("no rest while rigging", 19, x.helper(0, 6));
        x.pass(1);
        check.same("nor in its last minute", 19, x.helper(0, 6));
        x.pass(1);
        check.same("one minute of rest", 18, x.helper(0, 6));
    }

    private static void restsToNothing(Checks check) {
        CaveRelay x = Caves.crawls(1, 1);
        x.addHelper(600);
        Caves.walkDown(x, 1, 1);
        x.go(0, 0);
        x.pass(1);
        check.same("2", 2, x.helper(0, 6));
        for (int due : new int[] {1, 0, 0, 0}) {
            x.pass(1);
            check.same("rests", due, x.helper(0, 6));
        }
        x.pass(600);
        check.same("never below 0", 0, x.helper(0, 6));
    }

    private static void countsBelow(Checks check) {
        CaveRelay x = Caves.crawls(2, 2);
        x.addRope(80);
        x.addHelper(600);
        x.take(0, 0);
        x.go(0, 1);
        check.same("not yet", 0, x.helper(0, 7));
        x.pass(1);
        check.same("walking down from the surface", 1, x.helper(0, 7));
        x.pass(1);
        check.same("in the minute of coming there", 2, x.helper(0, 7));
        x.pass(1);
        check.same("standing", 3, x.helper(0, 7));
        x.setPassage(1, 20, 2);
        x.rig(0);
        x.pass(10);
        check.same("rigging", 13, x.helper(0, 7));
        x.go(0, 0);
        x.pass(1);
        check.same("walking up", 14, x.helper(0, 7));
        x.pass(1);
        check.same("in the minute of coming up", 0, x.helper(0, 7));
    }

    /** Helpers below a pitch that is not rigged, in the minutes of their limits. */
    private static void tooLate(Checks check) {
        CaveRelay x = Caves.crawls(1, 5);
        x.addHelper(30);
        x.addHelper(32);
        Caves.walkDown(x, 2, 1);
        x.setPassage(0, 9, 5);
        x.pass(25);
        check.helper("30 of 30", x, 0, 30, 1, 0, NONE, 0, NONE, 5, 30, 0);
        check.same("not too late", 0, x.value(13));
        for (int due : new int[] {1, 2, 4, 6}) {
            x.pass(1);
            check.same("minutes too late of both", due, x.value(13));
        }
        x.setPassage(0, 0, 1);
        x.pass(1);
        check.helper("up in this minute", x, 0, 30, 0, 0, NONE, 0, NONE, 6, 0, 0);
        check.same("which is not too late", 6, x.value(13));
        x.pass(10);
        check.same("nor those behind it", 6, x.value(13));
        CaveRelay longWay = Caves.crawls(2, 15);
        longWay.setPassage(0, 0, 1);
        longWay.addHelper(30);
        longWay.go(0, 1);
        longWay.pass(1);
        longWay.setPassage(0, 0, 30);
        longWay.go(0, 0);
        longWay.pass(29);
        check.same("30 of 30, walking", 0, longWay.value(13));
        check.same("30 of 30, walking", 30, longWay.helper(0, 7));
        longWay.pass(1);
        check.same("up in the 31st", 0, longWay.value(13));
    }

    private static void countsNothing(Checks check) {
        CaveRelay x = Caves.standing(2, 1);
        check.same("2", 2, x.helper(0, 7));
        x.go(0, 0);
        x.pass(2);
        check.same("0", 0, x.helper(0, 7));
        x.pass(600);
        check.same("still 0", 0, x.helper(0, 7));
        x.go(0, 1);
        x.pass(1);
        check.same("from the beginning", 1, x.helper(0, 7));
        CaveRelay y = Caves.later(Caves.rigging(2, 0), 10);
        check.same("rigging at the surface", 0, y.helper(0, 7));
    }

    private static void timeIncreases(Checks check) {
        CaveRelay x = Caves.standing(3, 2);
        check.same("4", 4, x.value(3));
        x.send(0);
        x.pass(1);
        check.same("5", 5, x.value(3));
        check.message("goes up in each minute", x, 0, 0, 4, 1);
        x.setSilence(5, 6);
        x.pass(1);
        check.message("silence by the time ahead of its increase", x, 0, 0, 4, 1);
        x.pass(1);
        check.same("7", 7, x.value(3));
        check.same("it came", 1, x.value(8));
        x.pass(600);
        check.same("607", 607, x.value(3));
    }

    // ---- messages

    private static void sendsFromThere(Checks check) {
        CaveRelay x = Caves.standing(7, 7);
        check.same("from the lowest station", 1, x.send(0));
        check.message("from there", x, 0, 0, 14, 7);
        CaveRelay y = Caves.standing(7, 1);
        y.send(0);
        check.message("from station 1", y, 0, 0, 2, 1);
        check.notNow("walks", () -> Caves.walking(7, 1, 2), z -> z.send(0));
        check.notNow("rigs", () -> Caves.rigging(7, 1), z -> z.send(0));
    }

    private static void tenOnTheirWay(Checks check) {
        CaveRelay x = Caves.standing(2, 2);
        for (int i = 1; i <= 10; i++) {
            check.same("on their way", i, x.send(0));
        }
        check.message("the first", x, 0, 0, 4, 2);
        check.message("the tenth", x, 9, 0, 4, 2);
        check.notNow("an eleventh", () -> {
            CaveRelay y = Caves.standing(2, 2);
            for (int i = 1; i <= 10; i++) {
                y.send(0);
            }
            return y;
        }, y -> y.send(0));
        x.pass(1);
        check.same("they go up", 10, x.value(7));
        check.message("the tenth", x, 9, 0, 4, 1);
        check.same("they come", 10, x.pass(1));
        check.same("none is on its way", 0, x.value(7));
        check.same("room again", 1, x.send(0));
    }

    private static void oneStationUp(Checks check) {
        CaveRelay x = Caves.standing(7, 7);
        x.send(0);
        for (int station = 6; station > 0; station--) {
            check.same("not there", 0, x.pass(1));
            check.message("goes up", x, 0, 0, 14, station);
        }
        x.setSilence(x.value(3), x.value(3) + 2);
        check.same("silence", 0, x.pass(2));
        check.message("stays", x, 0, 0, 14, 1);
        check.same("there", 1, x.pass(1));
    }

    private static void messageIsThere(Checks check) {
        CaveRelay x = Caves.standing(1, 1);
        x.addHelper(600);
        x.send(0);
        check.same("not counted yet", 0, x.value(8));
        check.same("there", 1, x.pass(1));
        check.same("counted", 1, x.value(8));
        check.same("not on its way any more", 0, x.value(7));
        x.setSilence(0, 100000);
        check.same("at once, in silence, too", 0, x.send(1));
        check.same("counted", 2, x.value(8));
        check.same("but not by the next minute", 0, x.pass(1));
        check.same("counted", 2, x.value(8));
    }

    /** A message goes up in each minute that is not silent. */
    private static int wentUp(int first, int last, int minutes) {
        CaveRelay x = Caves.standing(7, 7);
        x.send(0);
        x.setSilence(first, last);
        x.pass(minutes);
        return 7 - x.message(0, 2);
    }

    private static void firstAndLastMinute(Checks check) {
        // the time is 14 when the message is sent
        check.same("the first one is silent", 0, wentUp(14, 20, 1));
        check.same("the one ahead of the first is not", 1, wentUp(15, 20, 1));
        check.same("nor are more of them", 2, wentUp(16, 20, 4));
        check.same("the last one is not", 1, wentUp(0, 14, 1));
        check.same("the one ahead of the last is", 0, wentUp(0, 15, 1));
        check.same("and then no more", 1, wentUp(0, 15, 2));
        check.same("one minute", 2, wentUp(15, 16, 3));
        check.same("no minute", 3, wentUp(15, 15, 3));
        check.same("all minutes", 0, wentUp(0, 100000, 500));
        check.same("those to come", 3, wentUp(100000, 100000, 3));
    }

    private static void timeAheadOfTheMinute(Checks check) {
        CaveRelay x = Caves.standing(2, 2);
        x.send(0);
        x.setSilence(4, 5);
        check.same("the time is 4", 4, x.value(3));
        x.pass(1);
        check.message("the minute from 4 to 5", x, 0, 0, 4, 2);
        x.pass(1);
        check.message("the minute from 5 to 6", x, 0, 0, 4, 1);
        CaveRelay y = Caves.standing(2, 2);
        y.send(0);
        y.setSilence(5, 6);
        y.pass(1);
        check.message("the minute from 4 to 5", y, 0, 0, 4, 1);
        y.pass(1);
        check.message("the minute from 5 to 6", y, 0, 0, 4, 1);
    }

    private static void initiallyNoSilence(Checks check) {
        CaveRelay x = new CaveRelay();
        x.addHelper(600);
        Caves.walkDown(x, 1, 1);
        x.send(0);
        check.same("no silence", 1, x.pass(1));
        CaveRelay y = new CaveRelay();
        check.same("first", 0, y.value(11));
        check.same("last", 0, y.value(12));
        x.setSilence(0, 100000);
        x.begin(1);
        x.addHelper(600);
        x.go(0, 1);
        x.pass(5);
        x.send(0);
        check.same("no silence behind begin()", 1, x.pass(1));
    }

    // ---- the log

    private static void logged(Checks check) {
        CaveRelay x = Caves.atStretcher(2, 1, 6);
        x.pass(3);
        x.carry(0b111000);
        check.carried("the carry", x, 0, 5, 2, 0b111000);
        x.pass(3);
        check.carried("still", x, 0, 5, 2, 0b111000);
        x.pass(4);
        x.carry(0b111000);
        check.carried("the next one", x, 0, 12, 1, 0b111000);
        check.carried("the first one", x, 1, 5, 2, 0b111000);
        check.same("carries", 2, x.value(9));
        CaveRelay y = new CaveRelay();
        y.setPassage(1, 0, 1);
        y.setPassage(3, 0, 1);
        Caves.addHelpers(y, 3, 600);
        Caves.walkDown(y, 3, 4);
        y.carry(7);
        check.carried("the first one of a new object", y, 0, 13, 4, 7);
        check.same("carries", 1, y.value(9));
    }

    /** The stretcher never goes down, so that 7 carries are the most; begin() empties the log. */
    private static void allThatCanBeAreKept(Checks check) {
        CaveRelay x = Caves.atStretcher(7, 1, 3);
        for (int carries = 1; carries <= 7; carries++) {
            x.carry(7);
            x.pass(3);
            check.same("carries", carries, x.value(9));
            for (int i = 0; i < carries; i++) {
                check.carried("of " + carries, x, i, 7 + 3 * (carries - 1 - i), 7 - (carries - 1 - i), 7);
            }
        }
        check.noIndex("not more", () -> carriedUp(7), y -> y.carried(7, 0));
        check.notNow("no carry from the surface", () -> carriedUp(7), y -> y.carry(7));
    }

    private static CaveRelay carriedUp(int passages) {
        CaveRelay x = Caves.atStretcher(passages, 1, 3);
        for (int i = 0; i < passages; i++) {
            x.carry(7);
            x.pass(3);
        }
        return x;
    }

    // ---- promise 14

    private static void passUndone(Checks check) {
        Undoing.once(check, "pass", Caves::busy, x -> x.pass(50));
        Undoing.once(check, "pass of a cave without helpers", CaveRelay::new, x -> x.pass(1));
    }

    private static void passOneAndMost(Checks check) {
        for (int minutes : new int[] {1, 2, 599, 600}) {
            CaveRelay x = new CaveRelay();
            check.same("pass(" + minutes + ")", 0, x.pass(minutes));
            check.same("time", minutes, x.value(3));
        }
    }

    private static void passReturns(Checks check) {
        CaveRelay x = Caves.standing(2, 2);
        x.addHelper(600);
        check.same("none", 0, x.pass(1));
        x.send(1);
        check.same("one that was there at once came not in them", 0, x.pass(1));
        x.send(0);
        x.pass(1);
        x.send(0);
        x.send(0);
        check.same("one", 1, x.pass(1));
        check.same("two", 2, x.pass(600));
        check.same("in all", 4, x.value(8));
        check.same("none", 0, x.pass(600));
        for (int i = 0; i < 10; i++) {
            x.send(1);
        }
        check.same("none of those", 0, x.pass(600));
        CaveRelay ten = Caves.standing(1, 1);
        for (int i = 0; i < 10; i++) {
            ten.send(0);
        }
        check.same("ten", 10, ten.pass(1));
    }

    private static void passOutOfRange(Checks check) {
        for (int minutes : new int[] {LEAST, -600, -1, 0, 601, 602, MOST}) {
            check.badArgument("pass(" + minutes + ")", CaveRelay::new, x -> x.pass(minutes));
            check.badArgument("pass(" + minutes + ")", Caves::busy, x -> x.pass(minutes));
            check.badArgument("pass(" + minutes + ") at the end of time", () -> Caves.atTime(100000),
                    x -> x.pass(minutes));
        }
    }

    private static void passBeyondTheEnd(Checks check) {
        check.same("to 100000, by 600", 0, Caves.atTime(99400).pass(600));
        check.notNow("to 100001, by 600", () -> Caves.atTime(99401), x -> x.pass(600));
        check.same("to 100000, by 599", 0, Caves.atTime(99401).pass(599));
        check.same("to 100000, by 1", 0, Caves.atTime(99999).pass(1));
        check.notNow("to 100001, by 2", () -> Caves.atTime(99999), x -> x.pass(2));
        check.notNow("to 100001, by 1", () -> Caves.atTime(100000), x -> x.pass(1));
        check.same("the end of time", 100000, Caves.atTime(100000).value(3));
        CaveRelay x = Caves.atTime(100000);
        x.begin(4);
        check.same("from 0 again", 0, x.pass(600));
    }
}
