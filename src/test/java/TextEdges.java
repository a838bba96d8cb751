/** Edges of the term "Text", and of promises 29 to 31. */
final class TextEdges {
    private static final int LEAST = Integer.MIN_VALUE;
    private static final int MOST = Integer.MAX_VALUE;

    private TextEdges() {
    }

    static void all(Edges e) {
        orders(e);
        syntaxErrors(e);
        promises29And30(e);
        promise31(e);
    }

    private static void orders(Edges e) {
        e.term("The text has at most 90 bytes.", TextEdges::ninetyBytes);
        e.term("It is a sequence of orders, each terminated by a semicolon", TextEdges::semicolons);
        e.term("\"g\", a helper digit 0 to 5 and a station digit 0 to 7, to go", TextEdges::orderToGo);
        e.term("\"r\" and a helper digit, to rig the passage below", TextEdges::orderToRig);
        e.term("\"t\", a helper digit and a rope digit 0 to 7, to take a rope that lies at the helper's station",
                TextEdges::orderToTake);
        e.term("\"c\" and three to six helper digits, each greater than the one before, to carry",
                TextEdges::orderToCarry);
        e.term("\"m\" and a helper digit, a message", TextEdges::orderOfAMessage);
        e.term("\"p\" and a number of minutes of one to three digits, 1 to 600", TextEdges::orderOfMinutes);
        e.term("There are no spaces", TextEdges::noSpaces);
        e.term("there may be no orders", TextEdges::noOrders);
    }

    private static void syntaxErrors(Edges e) {
        e.term("the index of the first byte that cannot stand where it stands", TextEdges::firstWrongByte);
        e.term("(a digit too many,", TextEdges::digitTooMany);
        e.term("or not greater, too;", TextEdges::digitNotGreater);
        e.term("not a digit behind which there cannot be enough greater ones)", TextEdges::notEnoughGreater);
        e.term("or the length of the text if the text ends too early", TextEdges::endsTooEarly);
        e.term("For a number of minutes that is out of its range it is the index of its first digit",
                TextEdges::minutesOutOfRange);
        e.term("found when a byte that is no digit, whichever it is", TextEdges::outOfRangeAheadOfAnyByte);
        e.term("or the end of the text, follows it", TextEdges::outOfRangeAheadOfTheEnd);
    }

    private static void promises29And30(Edges e) {
        e.promise(29, "Appends a byte to the text.", TextEdges::appendSavesNothing);
        e.promise(29, "`value`: the byte, 0 to 127", TextEdges::appendLeastAndMost);
        e.promise(29, "Returns the new length of the text.", TextEdges::appendReturns);
        e.promise(29, "if value is out of range", TextEdges::appendOutOfRange);
        e.promise(29, "if the text has 90 bytes", TextEdges::appendToAFullText);
        e.promise(30, "Empties the text.", TextEdges::clearTextEmpties);
        e.promise(30, "Returns the length that it had.", TextEdges::clearTextReturns);
    }

    private static void promise31(Edges e) {
        e.promise(31, "up to the first one that is not possible", TextEdges::upToTheFirst);
        e.promise(31, "The text stays as it is.", TextEdges::textStays);
        e.promise(31, "Undoable (one saved state, also if no order is carried out)", TextEdges::oneSavedState);
        e.promise(31, "if there is no syntax error.", TextEdges::noneSavedBySyntaxErrors);
        e.promise(31, "Returns the number of orders that are carried out", TextEdges::numberOfOrders);
        e.promise(31, "-10 minus the syntax error position if there is a syntax error", TextEdges::minusTen);
        e.promise(31, "(then nothing changes)", TextEdges::nothingChanges);
    }

    /** What carryOut() answers in a new cave, where no order but "p" is possible. */
    private static int answer(String text) {
        CaveRelay x = new CaveRelay();
        Caves.write(x, text);
        return x.carryOut();
    }

    private static void wrong(Checks check, int at, String text) {
        check.same("\"" + text + "\"", -10 - at, answer(text));
    }

    private static void right(Checks check, String text) {
        check.same("\"" + text + "\"", 0, answer(text));
        check.same("\"p1;" + text + "\"", 1, answer("p1;" + text));
    }

    private static String times(int count, String text) {
        return text.repeat(count);
    }

    // ---- orders

    private static CaveRelay full() {
        CaveRelay x = new CaveRelay();
        Caves.write(x, times(30, "p1;"));
        return x;
    }

    private static void ninetyBytes(Checks check) {
        check.same("all 90 bytes count", 30, full().carryOut());
        check.notNow("no 91st", TextEdges::full, x -> x.append(';'));
        check.same("90 bytes", 90, full().clearText());
        check.same("89 bytes, without the last semicolon", -10 - 89, answer(times(30, "p1;").substring(0, 89)));
        check.same("the 90th is wrong", -10 - 89, answer(times(29, "p1;") + "p1x"));
        check.same("the first is wrong", -10, answer("x" + times(29, "p1;")));
    }

    private static void semicolons(Checks check) {
        for (String order : new String[] {"g01", "r2", "t34", "c012", "m5", "p6"}) {
            wrong(check, order.length(), order);
            wrong(check, order.length(), order + order + ";");
            wrong(check, order.length(), order + ":");
            wrong(check, order.length(), order + ",");
            wrong(check, order.length() + 1, order + ";;");
            check.hold(order + ";", answer(order + ";") >= 0);
            check.hold("twice " + order + ";", answer(order + ";" + order + ";") >= 0);
        }
        wrong(check, 0, ";");
    }

    /** The digits at an index of a text that are allowed there; each other byte cannot stand there. */
    private static void digits(Checks check, String text, int at, char most) {
        for (char c = 0; c < 128; c++) {
            String changed = text.substring(0, at) + c + text.substring(at + 1);
            if (c >= '0' && c <= most) {
                right(check, changed);
            } else {
                wrong(check, at, changed);
            }
        }
    }

    private static void orderToGo(Checks check) {
        digits(check, "g00;", 1, '5');
        digits(check, "g00;", 2, '7');
        CaveRelay x = Caves.atStretcher(7, 1, 6);
        Caves.write(x, "g56;g06;p1;g57;g05;");
        check.same("all", 5, x.carryOut());
        check.helper("to the lowest station", x, 5, 600, 6, 1, 7, 1);
        check.helper("up", x, 0, 600, 6, 1, 5, 1);
        CaveRelay y = Caves.standing(1, 1);
        Caves.write(y, "g00;");
        check.same("to the surface", 1, y.carryOut());
        check.helper("to the surface", y, 0, 600, 1, 1, 0, 2);
    }

    private static void orderToRig(Checks check) {
        digits(check, "r0;", 1, '5');
        CaveRelay x = Caves.ropes(6);
        x.setPassage(0, 1, 1);
        Caves.addHelpers(x, 6, 600);
        Caves.write(x, "t50;r5;p10;");
        check.same("all", 3, x.carryOut());
        check.passage("rigged", x, 0, 1, 1, 0, 0, -1);
        CaveRelay y = Caves.aboveAPitch(7, 6);
        Caves.write(y, "r0;");
        check.same("the last passage", 1, y.carryOut());
        check.same("is being rigged", 0, y.passage(6, 4));
    }

    private static void orderToTake(Checks check) {
        digits(check, "t00;", 1, '5');
        digits(check, "t00;", 2, '7');
        CaveRelay x = Caves.ropes(8);
        Caves.addHelpers(x, 6, 600);
        Caves.write(x, "t07;t50;");
        check.same("both", 2, x.carryOut());
        check.rope("the last", x, 7, 27, 1, 0);
        check.rope("the first", x, 0, 20, 1, 5);
        CaveRelay y = Caves.aboveAPitch(2, 1);
        y.lay(0);
        y.addHelper(600);
        Caves.write(y, "t10;");
        check.same("lies at another station", 0, y.carryOut());
        Caves.write(y, "t00;");
        check.same("lies there", 1, y.carryOut());
    }

    private static void orderToCarry(Checks check) {
        for (String team : new String[] {"012", "345", "135", "0123", "2345", "01234", "12345", "012345"}) {
            right(check, "c" + team + ";");
            CaveRelay x = Caves.atStretcher(1, 1, 6);
            Caves.write(x, "c" + team + ";");
            check.same("c" + team, 1, x.carryOut());
            int set = 0;
            for (char c : team.toCharArray()) {
                set |= 1 << c - '0';
            }
            check.same("the set of " + team, set, x.carried(0, 2));
        }
        for (char c = 0; c < 128; c++) {
            if (c < '0' || c > '5') {
                wrong(check, 1, "c" + c);
                wrong(check, 2, "c0" + c);
                wrong(check, 3, "c01" + c);
                if (c != ';') {
                    wrong(check, 4, "c012" + c);
                    wrong(check, 7, "c012345" + c);
                }
            }
        }
    }

    private static void orderOfAMessage(Checks check) {
        digits(check, "m0;", 1, '5');
        CaveRelay x = Caves.atStretcher(2, 1, 6);
        Caves.write(x, "m5;m0;");
        check.same("both", 2, x.carryOut());
        check.message("of the last", x, 0, 5, 2, 2);
        check.message("of the first", x, 1, 0, 2, 2);
    }

    private static void orderOfMinutes(Checks check) {
        int[] numbers = {1, 2, 9, 10, 60, 99, 100, 101, 599, 600};
        for (int number : numbers) {
            CaveRelay x = new CaveRelay();
            Caves.write(x, "p" + number + ";");
            check.same("p" + number, 1, x.carryOut());
            check.same("minutes", number, x.value(3));
        }
        for (String digits : new String[] {"1", "01", "001"}) {
            CaveRelay x = new CaveRelay();
            Caves.write(x, "p" + digits + ";");
            check.same("p" + digits, 1, x.carryOut());
            check.same("one minute", 1, x.value(3));
        }
        wrong(check, 1, "p0;");
        wrong(check, 1, "p601;");
        wrong(check, 1, "p;");
        wrong(check, 1, "p;555");
        wrong(check, 4, "p0001;");
        wrong(check, 4, "p1000;");
    }

    private static void noSpaces(Checks check) {
        String text = "g01;r0;t01;c012;m0;p1;";
        check.same("without spaces", 0, answer(text));
        for (int at = 0; at <= text.length(); at++) {
            String spaced = text.substring(0, at) + " " + text.substring(at);
            wrong(check, at, spaced);
            wrong(check, at, text.substring(0, at) + "\n" + text.substring(at));
        }
    }

    private static void noOrders(Checks check) {
        check.same("an empty text", 0, new CaveRelay().carryOut());
        CaveRelay x = full();
        x.clearText();
        check.same("emptied", 0, x.carryOut());
        check.same("nothing is carried out", 0, x.value(3));
    }

    // ---- syntax errors

    private static void firstWrongByte(Checks check) {
        for (char c = 0; c < 128; c++) {
            if ("grtcmp".indexOf(c) < 0) {
                wrong(check, 0, "" + c);
                wrong(check, 0, c + "p1;");
                wrong(check, 9, "p1;g00;p1" + "x" + c);
                wrong(check, 7, "p1;g00;" + c);
            }
        }
        wrong(check, 0, "xyz");
        wrong(check, 1, "gxr9;");
        wrong(check, 2, "g0x9;");
        wrong(check, 3, "g00xy");
        wrong(check, 1, "rx");
        wrong(check, 2, "r0x");
        wrong(check, 1, "px");
        wrong(check, 2, "p1x");
    }

    private static void digitTooMany(Checks check) {
        wrong(check, 3, "g010;");
        wrong(check, 2, "r00;");
        wrong(check, 3, "t010;");
        wrong(check, 2, "m00;");
        wrong(check, 4, "p1000;");
        wrong(check, 4, "p1000");
        wrong(check, 4, "p6000;");
        wrong(check, 4, "p0000;");
        wrong(check, 7, "c0123455;");
        for (char c = '0'; c <= '9'; c++) {
            wrong(check, 7, "c012345" + c + ";");
            wrong(check, 4, "p999" + c);
            wrong(check, 3, "g01" + c);
        }
    }

    private static void digitNotGreater(Checks check) {
        wrong(check, 2, "c00");
        wrong(check, 2, "c55");
        wrong(check, 2, "c10");
        wrong(check, 3, "c011;");
        wrong(check, 3, "c010;");
        wrong(check, 3, "c121;");
        wrong(check, 4, "c0122;");
        wrong(check, 4, "c0120;");
        wrong(check, 5, "c01233;");
        wrong(check, 6, "c012344;");
        wrong(check, 6, "c012340;");
    }

    private static void notEnoughGreater(Checks check) {
        wrong(check, 2, "c4");
        wrong(check, 2, "c5");
        wrong(check, 2, "c4;");
        wrong(check, 2, "c5;");
        wrong(check, 3, "c35");
        wrong(check, 3, "c35;");
        wrong(check, 3, "c45");
        wrong(check, 3, "c45;");
        wrong(check, 3, "c05;");
        wrong(check, 3, "c455;");
        wrong(check, 2, "c54;");
        right(check, "c345;");
    }

    private static void endsTooEarly(Checks check) {
        for (String order : new String[] {"g57;", "r5;", "t57;", "c012345;", "m5;", "p600;"}) {
            for (int length = 1; length < order.length(); length++) {
                wrong(check, length, order.substring(0, length));
                wrong(check, 4 + length, "g00;" + order.substring(0, length));
            }
        }
        String long88 = times(22, "g00;");
        wrong(check, 90, long88 + "p1");
        wrong(check, 90, long88 + "c0");
        wrong(check, 90, long88 + "g0");
        wrong(check, 89, long88 + "g");
    }

    private static void minutesOutOfRange(Checks check) {
        for (String number : new String[] {"0", "00", "000", "601", "610", "700", "999"}) {
            wrong(check, 1, "p" + number + ";");
            wrong(check, 4, "p1;p" + number + ";");
            wrong(check, 5, "g00;p" + number + ";p1;");
        }
        right(check, "g00;");
        check.same("600 is not", 1, answer("p600;"));
        check.same("1 is not", 1, answer("p001;"));
    }

    private static void outOfRangeAheadOfAnyByte(Checks check) {
        for (char c = 0; c < 128; c++) {
            boolean digit = c >= '0' && c <= '9';
            wrong(check, digit ? 4 : 1, "p601" + c);
            wrong(check, digit ? 4 : 1, "p000" + c + ";");
            if (c != ';') {
                wrong(check, 4, "p600" + c);
                wrong(check, 4, "p001" + c);
            }
            if (!digit) {
                wrong(check, 1, "p0" + c);
                wrong(check, 1, "p00" + c);
            }
        }
        wrong(check, 1, "p;");
        check.same("0 goes on to 05", 1, answer("p05;"));
    }

    private static void outOfRangeAheadOfTheEnd(Checks check) {
        for (String number : new String[] {"0", "00", "000", "601", "999"}) {
            wrong(check, 1, "p" + number);
            wrong(check, 9, "g00;p60;p" + number);
        }
        for (String number : new String[] {"1", "01", "001", "60", "600"}) {
            wrong(check, 1 + number.length(), "p" + number);
        }
        wrong(check, 1, "p");
        String long84 = times(21, "g00;");
        wrong(check, 88, long84 + "r0;" + "p");
        wrong(check, 88, long84 + "r0;" + "p00");
        wrong(check, 90, long84 + "r0;" + "p60");
    }

    // ---- promises 29 and 30

    private static void appendSavesNothing(Checks check) {
        Undoing.never(check, "append", CaveRelay::new, x -> x.append('p'));
        CaveRelay x = Caves.begun(3);
        x.append('p');
        x.undo();
        check.same("undo leaves it", 1, x.clearText());
    }

    private static void appendLeastAndMost(Checks check) {
        for (int value = 0; value <= 127; value++) {
            CaveRelay x = new CaveRelay();
            check.same("append(" + value + ")", 1, x.append(value));
            check.same("it stands there", "grtcmp".indexOf(value) < 0 ? -10 : -11, x.carryOut());
        }
    }

    private static void appendReturns(Checks check) {
        CaveRelay x = new CaveRelay();
        for (int length = 1; length <= 90; length++) {
            check.same("append", length, x.append(127));
        }
        x.clearText();
        check.same("append to an empty text", 1, x.append(0));
    }

    private static void appendOutOfRange(Checks check) {
        for (int value : new int[] {LEAST, -128, -1, 128, 255, 256, MOST}) {
            check.badArgument("append(" + value + ")", CaveRelay::new, x -> x.append(value));
            check.badArgument("append(" + value + ")", Caves::busy, x -> x.append(value));
            check.badArgument("append(" + value + "), and it is full", TextEdges::full, x -> x.append(value));
        }
    }

    private static void appendToAFullText(Checks check) {
        for (int value : new int[] {0, 'p', 127}) {
            check.notNow("append(" + value + ")", TextEdges::full, x -> x.append(value));
        }
        CaveRelay x = new CaveRelay();
        for (int i = 0; i < 89; i++) {
            x.append('p');
        }
        check.same("the 90th", 90, x.append('p'));
        x.begin(4);
        check.same("begin() leaves it full", 90, x.clearText());
        check.same("room again", 1, x.append('p'));
    }

    private static void clearTextEmpties(Checks check) {
        CaveRelay x = full();
        x.clearText();
        check.same("no orders", 0, x.carryOut());
        Caves.write(x, "p1");
        check.same("the bytes of before are gone", -12, x.carryOut());
        Undoing.never(check, "clearText", Caves::busy, CaveRelay::clearText);
        CaveRelay y = Caves.begun(3);
        y.append('p');
        y.clearText();
        y.undo();
        check.same("undo does not bring it back", 0, y.clearText());
    }

    private static void clearTextReturns(Checks check) {
        CaveRelay x = new CaveRelay();
        check.same("an empty text", 0, x.clearText());
        x.append('p');
        check.same("one byte", 1, x.clearText());
        check.same("an empty text", 0, x.clearText());
        check.same("a full text", 90, full().clearText());
    }

    // ---- promise 31

    private static void upToTheFirst(Checks check) {
        String[] impossible = {"g10;", "g02;", "g00;", "r0;", "t00;", "m5;", "c012;"};
        for (String order : impossible) {
            CaveRelay x = Caves.standing(2, 0);
            Caves.write(x, order + "p1;");
            check.same(order + " is the first", 0, x.carryOut());
            check.same("nothing passed", 0, x.value(3));
            Caves.write(x, "p2;" + order + "p1;");
            check.same(order + " is the second", 1, x.carryOut());
            check.same("two minutes", 2, x.value(3));
            Caves.write(x, "p3;p4;" + order);
            check.same(order + " is the last", 2, x.carryOut());
            check.same("nine minutes", 9, x.value(3));
        }
        CaveRelay end = Caves.atTime(99990);
        Caves.write(end, "p9;p2;p1;");
        check.same("the end of time", 1, end.carryOut());
        check.same("time", 99999, end.value(3));
        CaveRelay ten = Caves.standing(2, 2);
        Caves.write(ten, times(11, "m0;"));
        check.same("10 messages", 10, ten.carryOut());
        check.same("on their way", 10, ten.value(7));
    }

    private static void textStays(Checks check) {
        CaveRelay x = new CaveRelay();
        Caves.write(x, "p1;p2;");
        check.same("once", 2, x.carryOut());
        check.same("twice", 2, x.carryOut());
        check.same("time", 6, x.value(3));
        check.same("6 bytes", 6, x.clearText());
        Caves.write(x, "p1;g00;");
        check.same("up to the first", 1, x.carryOut());
        check.same("7 bytes", 7, x.clearText());
        Caves.write(x, "p1;x");
        check.same("a syntax error", -13, x.carryOut());
        check.same("4 bytes", 4, x.clearText());
    }

    private static CaveRelay withText(String text) {
        CaveRelay x = Caves.standing(2, 1);
        Caves.write(x, text);
        return x;
    }

    private static void oneSavedState(Checks check) {
        for (String text : new String[] {"", "r0;", "r0;p1;", "p1;", "p1;p2;", "p1;r0;p2;", "m0;g02;p2;m0;m0;m0;"}) {
            Undoing.once(check, "\"" + text + "\"", () -> withText(text), CaveRelay::carryOut);
        }
        Undoing.once(check, "30 orders", TextEdges::full, CaveRelay::carryOut);
    }

    private static void noneSavedBySyntaxErrors(Checks check) {
        for (String text : new String[] {"x", "p", "p1", "p0;", "p601", "p1;g", "c01;", "g01;;"}) {
            Undoing.never(check, "\"" + text + "\"", () -> withText(text), CaveRelay::carryOut);
        }
    }

    private static void numberOfOrders(Checks check) {
        for (int count = 0; count <= 30; count++) {
            check.same(count + " orders", count, answer(times(count, "p1;")));
        }
    }

    private static void minusTen(Checks check) {
        check.same("at 0", -10, answer("x"));
        check.same("at 1", -11, answer("p"));
        check.same("at 89", -99, answer(times(29, "p1;") + "p1x"));
        check.same("at 90", -100, answer(times(22, "p01;") + "p1"));
    }

    private static void nothingChanges(Checks check) {
        for (String text : new String[] {"p1;g02;p1;x", "m0;p600;p", "g02;p5;p601;", "p1;p1;c01;"}) {
            CaveRelay x = withText(text);
            check.hold("a syntax error", x.carryOut() < 0);
            check.hold("nothing changes by \"" + text + "\"",
                    Checks.whole(x).equals(Checks.whole(withText(text))));
        }
    }
}
