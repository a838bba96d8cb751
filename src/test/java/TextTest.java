/** Promises 29 to 31: the text. */
public final class TextTest {
    private static final Checks check = new Checks();
    private static final int NONE = CaveRelay.NONE;

    public static void main(String[] args) {
        promise29Append();
        promise30ClearText();
        promise31RightSyntax();
        promise31WrongSyntax();
        promise31WrongTeam();
        promise31WrongMinutes();
        promise31WrongOrderBehindAnother();
        promise31NothingOnASyntaxError();
        promise31OrdersAreCarriedOut();
        promise31StopsAtTheFirst();
        promise31OrdersThatAreNotPossible();
        promise31OneSavedState();
        promise31FullText();
        check.end("TextTest");
    }

    private static void promise29Append() {
        CaveRelay x = new CaveRelay();
        check.badArgument("append(-1)", x, () -> x.append(-1));
        check.badArgument("append(128)", x, () -> x.append(128));
        check.same("append(0)", 1, x.append(0));
        check.same("append(127)", 2, x.append(127));
        for (int i = 3; i <= 90; i++) {
            check.same("append", i, x.append('g'));
        }
        check.notNow("a full text", x, () -> x.append('g'));
        check.badArgument("a full text, and out of range", x, () -> x.append(128));
        check.notNow("nothing is saved", x, x::undo);
    }

    private static void promise30ClearText() {
        CaveRelay x = new CaveRelay();
        check.same("empty", 0, x.clearText());
        Caves.write(x, "p1;");
        check.same("3 bytes", 3, x.clearText());
        check.same("empty", 0, x.clearText());
        check.same("append", 1, x.append('p'));
        check.notNow("nothing is saved", x, x::undo);
        Caves.write(x, "p17;");
        x.clearText();
        x.append('p');
        check.same("the old bytes are gone", -11, x.carryOut());
    }

    /** What carryOut() answers to a text, in a cave in which no order but "p" is possible. */
    private static int syntax(String text) {
        CaveRelay x = new CaveRelay();
        Caves.write(x, text);
        return x.carryOut();
    }

    private static void right(int orders, String text) {
        check.same("\"" + text + "\"", orders, syntax(text));
    }

    private static void wrong(int at, String text) {
        check.same("\"" + text + "\"", -10 - at, syntax(text));
    }

    private static void promise31RightSyntax() {
        right(0, "");
        String[] orders = {"g00;", "g57;", "r0;", "r5;", "t00;", "t57;", "m0;", "m5;", "c012;", "c345;", "c0123;",
            "c012345;", "c135;"};
        for (String order : orders) {
            right(0, order);
            right(1, "p1;" + order);
        }
        right(1, "p1;");
        right(1, "p600;");
        right(1, "p001;");
        right(1, "p07;");
        right(3, "p9;p99;p599;");
    }

    private static void promise31WrongSyntax() {
        for (int value = 0; value < 128; value++) {
            if ("grtcmp".indexOf(value) < 0) {
                wrong(0, "" + (char) value);
                wrong(3, "p1;" + (char) value);
            } else {
                wrong(1, "" + (char) value);
            }
        }
        wrong(0, ";");
        wrong(0, "G00;");
        wrong(3, "p1; g00;");
        wrong(1, "g");
        wrong(1, "g;");
        wrong(1, "g6");
        wrong(1, "g60;");
        wrong(1, "g/0;");
        wrong(1, "g:0;");
        wrong(2, "g0");
        wrong(2, "g0;");
        wrong(2, "g08;");
        wrong(2, "g09;");
        wrong(3, "g00");
        wrong(3, "g000;");
        wrong(3, "g00 ;");
        wrong(1, "r");
        wrong(1, "r;");
        wrong(1, "r6;");
        wrong(2, "r0");
        wrong(2, "r00;");
        wrong(1, "m");
        wrong(1, "m6;");
        wrong(2, "m0");
        wrong(2, "m0g");
        wrong(1, "t");
        wrong(1, "t6");
        wrong(2, "t0");
        wrong(2, "t08");
        wrong(3, "t07");
        wrong(3, "t07t");
    }

    private static void promise31WrongTeam() {
        wrong(1, "c");
        wrong(1, "c;");
        wrong(1, "c6");
        wrong(2, "c0");
        wrong(2, "c0;");
        wrong(2, "c00");
        wrong(3, "c01");
        wrong(3, "c01;");
        wrong(3, "c011;");
        wrong(3, "c010;");
        wrong(3, "c016;");
        wrong(4, "c012");
        wrong(4, "c0122;");
        wrong(4, "c0121;");
        wrong(4, "c0126;");
        wrong(4, "c012 ;");
        wrong(2, "c4");
        wrong(3, "c45");
        wrong(3, "c45;");
        wrong(3, "c455;");
        wrong(2, "c5");
        wrong(2, "c5;");
        wrong(2, "c55;");
        wrong(7, "c012345");
        wrong(7, "c0123455;");
        wrong(7, "c0123456;");
    }

    private static void promise31WrongMinutes() {
        wrong(1, "p");
        wrong(1, "p;");
        wrong(1, "px");
        wrong(1, "p-1;");
        wrong(2, "p1");
        wrong(4, "p600");
        wrong(1, "p0;");
        wrong(1, "p0");
        wrong(1, "p000");
        wrong(1, "p000;");
        wrong(1, "p601;");
        wrong(1, "p601");
        wrong(1, "p999g");
        wrong(1, "p0x");
        wrong(2, "p1x");
        wrong(4, "p600 ");
        wrong(4, "p6000");
        wrong(4, "p6010;");
        wrong(4, "p0000");
        wrong(4, "p0001;");
        wrong(4, "p9999");
        wrong(8, "p1;p20;p0;");
        wrong(8, "p1;p20;p999;");
    }

    private static void promise31WrongOrderBehindAnother() {
        wrong(10, "g01;r0;c01;");
        wrong(14, "t57;m3;c0235;p");
        wrong(13, "t57;m3;c0235;x");
        wrong(14, "t57;m3;c0235;p601;p1");
    }

    private static void promise31NothingOnASyntaxError() {
        CaveRelay x = new CaveRelay();
        x.addHelper(100);
        Caves.write(x, "p1;g01;p5;x");
        long before = x.digest();
        check.same("a syntax error at its end", -20, x.carryOut());
        check.same("nothing changes", before, x.digest());
        check.same("only addHelper() was saved", 0, x.undo());
    }

    private static void promise31OrdersAreCarriedOut() {
        CaveRelay x = new CaveRelay();
        x.begin(1);
        x.setPassage(0, 20, 4);
        x.addRope(10);
        x.addRope(30);
        Caves.addHelpers(x, 4, 100);
        Caves.write(x, "t21;r2;p10;g01;g11;g31;p4;m3;c013;p1;t20;");
        check.same("all", 11, x.carryOut());
        check.values("all", x, 1, 2, 4, 15, 1, 1, 3, 0, 1, 1, 0, 0, 0, 0);
        check.rope("rigged", x, 1, 30, 2, 0);
        check.rope("taken", x, 0, 10, 1, 2);
        check.carried("carried", x, 0, 14, 1, 0b1011);
        check.helper("carries", x, 3, 100, 1, 1, 0, 11, NONE, 6, 5, 1);
        check.same("the text stays", 41, x.clearText());
        Caves.write(x, "p11;");
        check.same("the rest of the way", 1, x.carryOut());
        check.same("up", 0, x.value(4));
        CaveRelay y = Caves.crawls(1, 2);
        Caves.addHelpers(y, 6, 100);
        Caves.walkDown(y, 6, 1);
        Caves.write(y, "c345;");
        check.same("carry", 1, y.carryOut());
        check.carried("three, without the first", y, 0, 2, 1, 0b111000);
        y.undo();
        Caves.write(y, "g00;c01345;c12345;p123;");
        check.same("one of them has gone", 1, y.carryOut());
        Caves.write(y, "c12345;p123;");
        check.same("the others can", 2, y.carryOut());
        check.same("123 minutes", 125, y.value(3));
    }

    private static void promise31StopsAtTheFirst() {
        CaveRelay x = new CaveRelay();
        x.addHelper(100);
        Caves.write(x, "p3;g01;g01;p50;");
        check.same("two are possible", 2, x.carryOut());
        check.same("3 minutes", 3, x.value(3));
        check.helper("begins to walk", x, 0, 100, 0, 1, 1, 5, NONE, 0, 0, 0);
        check.same("none is possible", 1, x.carryOut());
        check.same("3 minutes more", 6, x.value(3));
    }

    private static void promise31OrdersThatAreNotPossible() {
        String[] orders = {"g01;", "r0;", "t00;", "t10;", "t01;", "m1;", "c012;", "c123;", "g12;", "g17;", "r1;"};
        for (String order : orders) {
            CaveRelay x = new CaveRelay();
            x.addHelper(100);
            x.go(0, 1);
            Caves.write(x, order);
            long before = x.digest();
            check.same(order + " is not possible", 0, x.carryOut());
            check.same(order + " is not possible", x.value(3), 0);
            x.undo();
            check.same(order + " changes nothing but the saved states", before, x.digest());
        }
        CaveRelay x = new CaveRelay();
        Caves.addHelpers(x, 3, 100);
        x.addRope(20);
        Caves.write(x, "m0;t10;t00;");
        check.same("a rope that another has", 2, x.carryOut());
        Caves.write(x, "c012;");
        check.same("not at the stretcher", 0, x.carryOut());
        Caves.write(x, "g10;");
        check.same("stands there", 0, x.carryOut());
        for (int i = 0; i < 166; i++) {
            x.pass(600);
        }
        Caves.write(x, "p399;p2;");
        check.same("the time would be 100001", 1, x.carryOut());
        check.same("time", 99999, x.value(3));
        Caves.write(x, "p1;p1;");
        check.same("to 100000", 1, x.carryOut());
        check.same("time", 100000, x.value(3));
    }

    private static void promise31OneSavedState() {
        CaveRelay x = new CaveRelay();
        check.same("no orders", 0, x.carryOut());
        check.same("one saved state", 0, x.undo());
        Caves.write(x, "p1;p2;p3;");
        x.carryOut();
        check.same("time", 6, x.value(3));
        check.same("one saved state", 0, x.undo());
        check.same("time", 0, x.value(3));
        check.same("the text is not taken back", 9, x.clearText());
        Caves.write(x, "m0;p1;");
        check.same("none is possible", 0, x.carryOut());
        check.same("one saved state", 0, x.undo());
    }

    private static void promise31FullText() {
        StringBuilder text = new StringBuilder();
        for (int i = 0; i < 30; i++) {
            text.append("p1;");
        }
        CaveRelay x = new CaveRelay();
        Caves.write(x, text.toString());
        check.same("90 bytes", 30, x.carryOut());
        check.same("time", 30, x.value(3));
        Caves.write(x, text.substring(0, 88) + "p1");
        check.same("ends too early", -10 - 88, x.carryOut());
        Caves.write(x, text.substring(0, 87) + "p60");
        check.same("ends too early", -10 - 90, x.carryOut());
        Caves.write(x, text.substring(0, 87) + "p00");
        check.same("out of range", -10 - 88, x.carryOut());
        Caves.write(x, text.substring(0, 87) + "c01");
        check.same("ends too early", -10 - 90, x.carryOut());
    }
}
