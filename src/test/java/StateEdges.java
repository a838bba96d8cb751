import java.math.BigInteger;
import java.util.ArrayList;
import java.util.List;

/** Edges of the terms "Undo" and "Exceptions", and of promises 32 and 33. */
final class StateEdges {
    private StateEdges() {
    }

    static void all(Edges e) {
        e.whatItIs("stations one below the other", StateEdges::wholeExercise);
        e.whatItIs("An object is used for at most 512 calls after it has been made", StateEdges::fiveHundredCalls);
        terms(e);
        e.promise(32, "Restores the most recently saved state and removes it from the saved states.",
                StateEdges::undoTheLatest);
        e.promise(32, "Returns the number of saved states that remain.", StateEdges::undoReturns);
        e.promise(32, "if there is no saved state", StateEdges::undoNothing);
        e.promise(33, "Returns a hash of the state.", StateEdges::digestOfAll);
        e.promise(33, "Start with h = 3613", StateEdges::digestOfANewObject);
        e.promise(33, "the length of the text", StateEdges::digestOfTexts);
        e.promise(33, "for each carry that is kept, from the latest one", StateEdges::digestOfTheLog);
        e.promise(33, "the number of saved states", StateEdges::digestOfSavedStates);
        e.promise(33, "with the overflow of long arithmetic ignored", StateEdges::digestOverflows);
    }

    private static void terms(Edges e) {
        e.term("saves the state from before the call, even if the call changes nothing", StateEdges::savesAnyway);
        e.term("Each successful call of a method", StateEdges::savesNothingWhenRefused);
        e.term("at most 4 states are saved, and the oldest is dropped first", StateEdges::fourStates);
        e.term("The saved state contains everything except the text.", StateEdges::everythingButTheText);
        e.term("A call that throws an exception changes nothing.", StateEdges::refusedChangesNothing);
        e.term("If several exceptions apply, the one that is listed first is thrown.", StateEdges::theFirstException);
        e.term("`NONE = -1`: There is no such thing.", StateEdges::none);
        e.plain("the interface says: ---- cave.");
        e.plain("the interface says: ---- deeds.");
        e.plain("the interface says: ---- values.");
        e.plain("the interface says: ---- what if.");
        e.plain("the interface says: ---- text.");
        e.plain("the interface says: ---- state.");
    }

    // ---- what it is

    /** All that the first sentence names, once through one exercise. */
    private static void wholeExercise(Checks check) {
        CaveRelay x = Caves.begun(2);
        x.addRope(23);
        Caves.addHelpers(x, 4, 600);
        Caves.write(x, "t00;g01;p5;r0;p10;g11;g21;p5;g12;g22;p8;g02;p8;m0;c012;p24;m1;p1;c012;p15;");
        check.same("all orders", 20, x.carryOut());
        check.values("the stretcher is up", x, 2, 1, 4, 76, 0, 0, 0, 0, 2, 2, 0, 0, 0, 0);
        check.carried("the latest", x, 0, 61, 1, 7);
        check.carried("the first", x, 1, 36, 2, 7);
        for (int h = 0; h < 3; h++) {
            check.helper("is up", x, h, 600, 0, 0, -1, 0, -1, 13 + 48 + 30, 0, 0);
        }
        check.helper("rested", x, 3, 600, 0, 0, -1, 0, -1, 0, 0, 0);
    }

    private static void fiveHundredCalls(Checks check) {
        CaveRelay saves = new CaveRelay();
        for (int call = 1; call <= 508; call++) {
            check.same("call " + call, call - 1, saves.setSilence(call, call));
        }
        for (int left = 3; left >= 0; left--) {
            check.same("the last four calls", left, saves.undo());
        }
        CaveRelay texts = new CaveRelay();
        for (int round = 0; round < 5; round++) {
            for (int length = 1; length <= 90; length++) {
                check.same("append", length, texts.append('p'));
            }
            check.same("clearText", 90, texts.clearText());
        }
        CaveRelay orders = Caves.atStretcher(7, 1, 6);
        Caves.write(orders, "m0;".repeat(9) + "p600;".repeat(12));
        long first = orders.carryOut();
        orders.undo();
        long digest = orders.digest();
        for (int round = 0; round < 110; round++) {
            check.same("carryOut", first, orders.carryOut());
            check.same("undo", 3, orders.undo());
            check.same("digest", digest, orders.digest());
        }
    }

    // ---- undo

    private static void savesAnyway(Checks check) {
        Undoing.once(check, "begin", CaveRelay::new, x -> x.begin(4));
        Undoing.once(check, "setPassage", CaveRelay::new, x -> x.setPassage(3, 35, 10));
        Undoing.once(check, "setSilence", CaveRelay::new, x -> x.setSilence(0, 0));
        Undoing.once(check, "carryOut without orders", CaveRelay::new, CaveRelay::carryOut);
        Undoing.once(check, "carryOut of none that is possible", () -> {
            CaveRelay x = new CaveRelay();
            Caves.write(x, "m0;");
            return x;
        }, CaveRelay::carryOut);
    }

    private static void savesNothingWhenRefused(Checks check) {
        check.badArgument("begin", CaveRelay::new, x -> x.begin(0));
        check.noIndex("setPassage", CaveRelay::new, x -> x.setPassage(4, 0, 1));
        check.notNow("addRope", () -> Caves.ropes(8), x -> x.addRope(10));
        check.notNow("addHelper", () -> Caves.helpers(6), x -> x.addHelper(30));
        check.badArgument("setSilence", CaveRelay::new, x -> x.setSilence(1, 0));
        check.notNow("go", () -> Caves.helpers(6), x -> x.go(0, 0));
        check.notNow("take", StateEdges::hasARope, x -> x.take(0, 1));
        check.notNow("lay", () -> Caves.helpers(6), x -> x.lay(0));
        check.notNow("rig", () -> Caves.helpers(6), x -> x.rig(0));
        check.notNow("takeOff", () -> Caves.helpers(6), x -> x.takeOff(0));
        check.notNow("carry", () -> Caves.helpers(6), x -> x.carry(7));
        check.notNow("send", Caves::carrying, x -> x.send(0));
        check.notNow("pass", () -> Caves.atTime(100000), x -> x.pass(1));
    }

    private static CaveRelay hasARope() {
        CaveRelay x = Caves.ropes(2);
        x.addHelper(100);
        x.take(0, 0);
        return x;
    }

    private static void fourStates(Checks check) {
        for (int calls = 0; calls <= 9; calls++) {
            CaveRelay x = new CaveRelay();
            for (int i = 0; i < calls; i++) {
                x.pass(1);
            }
            for (int left = Math.min(calls, 4) - 1; left >= 0; left--) {
                check.same("undo after " + calls + " calls", left, x.undo());
                check.same("the time before", calls - Math.min(calls, 4) + left, x.value(3));
            }
            boolean refused = false;
            try {
                x.undo();
            } catch (IllegalStateException e) {
                refused = true;
            }
            check.hold("no more than 4 after " + calls + " calls", refused);
        }
    }

    private static void everythingButTheText(Checks check) {
        String[] texts = {"", "p600;", "m3;", "p1;m5;m5;"};
        for (String text : texts) {
            CaveRelay x = Caves.busy();
            long before = due(x, 0, 0);
            Caves.write(x, text);
            x.carryOut();
            x.undo();
            check.same("all is back", before, due(x, 0, 0));
            check.same("the text stays", text.length(), x.clearText());
        }
        for (int passages = 1; passages <= 7; passages++) {
            CaveRelay x = Caves.busy();
            long before = due(x, 0, 0);
            x.begin(passages);
            x.addRope(77);
            x.addHelper(77);
            Caves.write(x, "p2;x");
            for (int left = 3; left > 0; left--) {
                check.same("undo", left, x.undo());
            }
            check.same("all is back", before, due(x, 0, 0));
            check.same("but the text was written later", -13, x.carryOut());
            check.same("but the text was written later", 4, x.clearText());
        }
        everyRowIsBack(check);
    }

    /** One call that writes into the rows of the messages, of the log, of ropes, helpers and passages. */
    private static void everyRowIsBack(Checks check) {
        CaveRelay x = Caves.atStretcher(4, 1, 6);
        x.send(4);
        x.carry(0b1111);
        x.send(5);
        x.pass(3);
        x.setPassage(3, 9, 1);
        long before = due(x, 0, 0);
        Caves.write(x, "m0;c012;p3;c012;m3;p3;g02;m4;m3;p1;m0;c012;");
        check.same("all but the last order, as helper 0 has gone", 11, x.carryOut());
        check.hold("all has changed", before != due(x, 0, 0));
        x.undo();
        check.same("all is back", before, due(x, 0, 0));
        CaveRelay rigged = Caves.riggedPitch(20, 1, 1, 600);
        rigged.addRope(70);
        rigged.take(0, 1);
        before = due(rigged, 0, 0);
        rigged.lay(0);
        rigged.takeOff(0);
        rigged.pass(5);
        rigged.setPassage(0, 60, 30);
        for (int i = 0; i < 4; i++) {
            rigged.undo();
        }
        check.same("all is back", before, due(rigged, 0, 0));
    }

    // ---- exceptions

    private static void refusedChangesNothing(Checks check) {
        check.badArgument("begin", Caves::busy, x -> x.begin(8));
        check.noIndex("setPassage", Caves::busy, x -> x.setPassage(2, 0, 1));
        check.badArgument("setPassage", Caves::busy, x -> x.setPassage(1, 61, 1));
        check.notNow("setPassage", Caves::busy, x -> x.setPassage(0, 0, 1));
        check.badArgument("addRope", Caves::busy, x -> x.addRope(9));
        check.badArgument("addHelper", Caves::busy, x -> x.addHelper(29));
        check.notNow("addHelper", Caves::busy, x -> x.addHelper(30));
        check.badArgument("setSilence", Caves::busy, x -> x.setSilence(7, 6));
        check.noIndex("go", Caves::busy, x -> x.go(6, 1));
        check.notNow("go", Caves::busy, x -> x.go(0, 1));
        check.noIndex("take", Caves::busy, x -> x.take(3, 2));
        check.notNow("take", Caves::busy, x -> x.take(5, 0));
        check.noIndex("lay", Caves::busy, x -> x.lay(-1));
        check.notNow("lay", Caves::busy, x -> x.lay(3));
        check.noIndex("rig", Caves::busy, x -> x.rig(6));
        check.notNow("rig", Caves::busy, x -> x.rig(5));
        check.noIndex("takeOff", Caves::busy, x -> x.takeOff(6));
        check.notNow("takeOff", Caves::busy, x -> x.takeOff(5));
        check.badArgument("carry", Caves::busy, x -> x.carry(3));
        check.notNow("carry", Caves::busy, x -> x.carry(7));
        check.noIndex("send", Caves::busy, x -> x.send(6));
        check.notNow("send", Caves::busy, x -> x.send(0));
        check.badArgument("pass", Caves::busy, x -> x.pass(0));
        check.badArgument("append", Caves::busy, x -> x.append(-1));
        check.noIndex("passage", Caves::busy, x -> x.passage(2, 0));
        check.noIndex("rope", Caves::busy, x -> x.rope(2, 0));
        check.noIndex("helper", Caves::busy, x -> x.helper(6, 0));
        check.badArgument("value", Caves::busy, x -> x.value(14));
        check.noIndex("message", Caves::busy, x -> x.message(2, 0));
        check.noIndex("carried", Caves::busy, x -> x.carried(2, 0));
        check.noIndex("why", Caves::busy, x -> x.why(6, 0));
        check.noIndex("minutesUp", Caves::busy, x -> x.minutesUp(6));
        check.noIndex("spare", Caves::busy, x -> x.spare(6));
        check.noIndex("bestRope", Caves::busy, x -> x.bestRope(2));
        check.noIndex("reach", Caves::busy, x -> x.reach(6));
    }

    /** In a busy cave passage 0 is walked through, there are 6 helpers, and the stretcher is carried. */
    private static void theFirstException(Checks check) {
        check.noIndex("setPassage: no passage, drop and minutes", Caves::busy, x -> x.setPassage(2, -1, 0));
        check.badArgument("setPassage: drop, walked through", Caves::busy, x -> x.setPassage(0, 61, 1));
        check.badArgument("setPassage: minutes, walked through", Caves::busy, x -> x.setPassage(0, 0, 31));
        check.badArgument("addRope: length, 8 ropes", () -> Caves.ropes(8), x -> x.addRope(81));
        check.badArgument("addHelper: limit, 6 helpers", Caves::busy, x -> x.addHelper(601));
        check.noIndex("take: no rope, walks", Caves::busy, x -> x.take(0, 2));
        check.noIndex("take: no rope, has one", Caves::busy, x -> x.take(5, 2));
        check.badArgument("carry: no helper, carried", Caves::busy, x -> x.carry(64 | 7));
        check.badArgument("carry: two, carried", Caves::busy, x -> x.carry(3));
        check.badArgument("pass: minutes, end of time", () -> Caves.atTime(100000), x -> x.pass(601));
        check.noIndex("passage: no passage, what", Caves::busy, x -> x.passage(2, 5));
        check.noIndex("rope: no rope, what", Caves::busy, x -> x.rope(2, 3));
        check.noIndex("helper: no helper, what", Caves::busy, x -> x.helper(6, 9));
        check.noIndex("message: no message, what", Caves::busy, x -> x.message(2, 3));
        check.noIndex("carried: no carry, what", Caves::busy, x -> x.carried(2, 3));
        check.badArgument("append: value, full", () -> {
            CaveRelay x = new CaveRelay();
            Caves.write(x, "p".repeat(90));
            return x;
        }, x -> x.append(128));
    }

    private static void none(Checks check) {
        check.same("NONE", -1, CaveRelay.NONE);
        check.same("no rope", CaveRelay.NONE, new CaveRelay().passage(0, 2));
    }

    // ---- promises 32 and 33

    private static void undoTheLatest(Checks check) {
        CaveRelay x = new CaveRelay();
        x.addRope(20);
        x.addRope(30);
        x.addRope(40);
        x.undo();
        check.rope("the latest but one", x, 1, 30, 0, 0);
        check.same("two ropes", 2, x.value(1));
        x.addRope(50);
        x.undo();
        check.same("two ropes again", 2, x.value(1));
        x.undo();
        check.same("one rope", 1, x.value(1));
        x.undo();
        check.same("no rope", 0, x.value(1));
        check.same("as it was made", 0, x.value(3));
    }

    private static void undoReturns(Checks check) {
        CaveRelay x = new CaveRelay();
        for (int i = 0; i < 5; i++) {
            x.pass(1);
        }
        for (int left = 3; left >= 0; left--) {
            check.same("undo", left, x.undo());
        }
        x.pass(1);
        check.same("the only one", 0, x.undo());
    }

    private static void undoNothing(Checks check) {
        check.refusedOnce("new", CaveRelay::new, IllegalStateException.class, CaveRelay::undo);
        check.refusedOnce("all are restored", () -> {
            CaveRelay x = new CaveRelay();
            for (int i = 0; i < 6; i++) {
                x.pass(1);
            }
            for (int i = 0; i < 4; i++) {
                x.undo();
            }
            return x;
        }, IllegalStateException.class, CaveRelay::undo);
        check.refusedOnce("a text only", () -> {
            CaveRelay x = new CaveRelay();
            Caves.write(x, "p1;x");
            x.carryOut();
            return x;
        }, IllegalStateException.class, CaveRelay::undo);
    }

    /** The document's hash of what the object tells, in numbers that have no end. */
    private static long due(CaveRelay x, int text, int saved) {
        List<Integer> told = new ArrayList<>();
        told.add(text);
        for (int what = 0; what <= 13; what++) {
            told.add(x.value(what));
        }
        for (int i = 0; i < x.value(0); i++) {
            for (int what = 0; what <= 4; what++) {
                told.add(x.passage(i, what));
            }
        }
        for (int i = 0; i < x.value(1); i++) {
            for (int what = 0; what <= 2; what++) {
                told.add(x.rope(i, what));
            }
        }
        for (int i = 0; i < x.value(2); i++) {
            for (int what = 0; what <= 8; what++) {
                told.add(x.helper(i, what));
            }
        }
        for (int i = 0; i < x.value(7); i++) {
            for (int what = 0; what <= 2; what++) {
                told.add(x.message(i, what));
            }
        }
        for (int i = 0; i < x.value(9); i++) {
            for (int what = 0; what <= 2; what++) {
                told.add(x.carried(i, what));
            }
        }
        told.add(saved);
        BigInteger h = BigInteger.valueOf(3613);
        for (int v : told) {
            h = h.multiply(BigInteger.valueOf(31)).add(BigInteger.valueOf(v));
        }
        return h.longValue();
    }

    private static void digestOfAll(Checks check) {
        check.same("busy", due(Caves.busy(), 6, 4), Caves.busy().digest());
        CaveRelay most = Caves.atStretcher(7, 1, 6);
        for (int i = 0; i < 8; i++) {
            most.addRope(80 - i);
        }
        for (int i = 0; i < 10; i++) {
            most.send(i % 6);
        }
        most.setSilence(0, 100000);
        for (int i = 0; i < 7; i++) {
            most.carry(7);
            most.pass(3);
        }
        Caves.write(most, "p".repeat(90));
        check.same("as much as there can be", due(most, 90, 4), most.digest());
        Undoing.never(check, "digest", Caves::busy, CaveRelay::digest);
    }

    private static void digestOfANewObject(Checks check) {
        check.same("new", due(new CaveRelay(), 0, 0), new CaveRelay().digest());
        check.same("one passage", due(Caves.begun(1), 0, 1), Caves.begun(1).digest());
    }

    private static void digestOfTexts(Checks check) {
        CaveRelay x = new CaveRelay();
        for (int length = 1; length <= 90; length++) {
            x.append(length);
            check.same("of " + length + " bytes", due(x, length, 0), x.digest());
        }
        CaveRelay a = new CaveRelay();
        CaveRelay b = new CaveRelay();
        Caves.write(a, "p1;");
        Caves.write(b, "xyz");
        check.same("the bytes do not matter", a.digest(), b.digest());
    }

    private static void digestOfTheLog(Checks check) {
        CaveRelay x = Caves.atStretcher(7, 1, 3);
        for (int carries = 0; carries < 7; carries++) {
            check.same(carries + " carries", due(x, 0, 4), x.digest());
            x.carry(7);
            check.same("carried", due(x, 0, 4), x.digest());
            x.pass(3);
        }
        check.same("7 carries", due(x, 0, 4), x.digest());
    }

    private static void digestOfSavedStates(Checks check) {
        CaveRelay x = new CaveRelay();
        for (int saved = 0; saved <= 6; saved++) {
            check.same("saved", due(x, 0, Math.min(saved, 4)), x.digest());
            x.setSilence(0, 0);
        }
        for (int saved = 3; saved >= 0; saved--) {
            x.undo();
            check.same("saved", due(x, 0, saved), x.digest());
        }
    }

    private static void digestOverflows(Checks check) {
        boolean below = false;
        boolean above = false;
        for (int length = 0; length <= 90; length++) {
            CaveRelay x = Caves.busy();
            x.clearText();
            for (int i = 0; i < length; i++) {
                x.append('p');
            }
            long digest = x.digest();
            check.same("wrapped round", due(x, length, 4), digest);
            below = below || digest < 0;
            above = above || digest > 0;
        }
        check.hold("there were hashes below and above 0", below && above);
    }
}
