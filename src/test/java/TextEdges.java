/** The edges of the input text, and those that the promises 9 to 12 name. */
final class TextEdges {
    private static final String TERMS = "Terms";
    private static final String SIGNS = "!\"#$%&'()*+,-./0123456789:;<=>?@AZ[\\]^_`az{|}~";

    private TextEdges() {
    }

    static void all() {
        mostCharacters();
        orders();
        eachPosition();
        leftToRight();
        anyLength();
        append();
        appendWrong();
        clearBuffer();
        firstError();
        run();
        runAsTheCallsDo();
        runUpToTheFirstRefused();
        runAnswers();
        runWrong();
    }

    private static HerdCords typed(String text) {
        HerdCords x = new HerdCords();
        Check.type(x, text);
        return x;
    }

    private static HerdCords typed(int length) {
        return typed("0+1;".repeat(15).substring(0, length));
    }

    private static void mostCharacters() {
        Check.sentence(TERMS, "The buffer has at most 60 characters.");
        HerdCords x = new HerdCords();
        for (int length = 1; length <= 60; length++) {
            Check.same("the length", x.append(48), length);
        }
        Check.refuses("the 61st", () -> typed(60), Check.STATE, y -> y.append(48));
        Check.refuses("the 61st, whatever it is", () -> typed(60), Check.STATE, y -> y.append(59));
        Check.same("60 yet", x.clearBuffer(), 60);
    }

    private static void right(String text) {
        Check.same("firstError of " + text, typed(text).firstError(), text.length());
        HerdCords x = typed(text);
        for (int cord = 0; cord < 7; cord++) {
            x.tie(cord, 555555);
        }
        x.run();
        Check.same("the buffer behind " + text, x.clearBuffer(), 0);
    }

    private static void begun(String text) {
        Check.same("firstError of " + text, typed(text).firstError(), text.length());
        Check.refuses("run of " + text, () -> typed(text), Check.ARGUMENT, y -> y.run());
    }

    private static void wrong(String text, int at) {
        Check.same("firstError of " + text, typed(text).firstError(), at);
        Check.refuses("run of " + text, () -> typed(text), Check.ARGUMENT, y -> y.run());
    }

    private static void orders() {
        Check.sentence(TERMS, "Orders as a text are one or more of these with \";\" between them: the digit of a cord, 0 to 6, "
            + "\"+\", and a number, 1 to 999999, without leading zeros (it is tied as a part); the digits of two cords with "
            + "\">\" between them, another one than the first (the first one is added to the second one); or the digit of a "
            + "cord, \"~\", and the digit of a place, 0 to 5 (a knot slips).");
        begun("");
        for (int cord = 0; cord <= 6; cord++) {
            begun("" + cord);
            begun(cord + "+");
            begun(cord + ">");
            begun(cord + "~");
            right(cord + "+1");
            right(cord + "+9");
            right(cord + "+10");
            right(cord + "+99999");
            right(cord + "+100000");
            right(cord + "+999999");
            wrong(cord + "+1000000", 8);
            wrong(cord + "+9999999", 8);
            wrong(cord + "+0", 2);
            wrong(cord + "+01", 2);
            for (int to = 0; to <= 9; to++) {
                String text = cord + ">" + to;
                if (to <= 6 && to != cord) {
                    right(text);
                } else {
                    wrong(text, 2);
                }
            }
            for (int place = 0; place <= 9; place++) {
                String text = cord + "~" + place;
                if (place <= 5) {
                    right(text);
                } else {
                    wrong(text, 2);
                }
            }
        }
        wrong("7+1", 0);
        wrong("7>1", 0);
        wrong("7~1", 0);
        begun("0+5;");
        right("0+5;6>0;6~0");
        wrong(";0+5", 0);
        wrong("0+5;;6>0", 4);
        wrong("0>1>2", 3);
        wrong("0~12", 3);
        wrong("0+5+5", 3);
    }

    /** Each character at each position of orders: the ones that may go on there, and that no others may. */
    private static void eachPosition() {
        goesOn("", "0123456");
        goesOn("3", "+>~");
        goesOn("3+", "123456789");
        goesOn("3+1", "0123456789;");
        goesOn("3+12345", "0123456789;");
        goesOn("3+123456", ";");
        goesOn("3>", "012456");
        goesOn("0>", "123456");
        goesOn("6>", "012345");
        goesOn("3>4", ";");
        goesOn("3~", "012345");
        goesOn("3~4", ";");
        goesOn("3~4;", "0123456");
        goesOn("3>4;3", "+>~");
        goesOn("3+9;4>", "012356");
        goesOn("3>0;4+", "123456789");
    }

    private static void goesOn(String begin, String signs) {
        for (int code = 33; code <= 126; code++) {
            HerdCords x = typed(begin);
            x.append(code);
            int due = signs.indexOf(code) >= 0 ? begin.length() + 1 : begin.length();
            Check.same("firstError of " + begin + (char) code, x.firstError(), due);
        }
    }

    private static void leftToRight() {
        Check.sentence(TERMS, "The buffer is read from left to right; a character is a syntax error if no orders as a text, of "
            + "any length, begin with the characters before it and this character.");
        wrong("x", 0);
        wrong("xx0+5", 0);
        wrong("0x0x", 1);
        wrong("0+x;0+0", 2);
        wrong("0+5x7", 3);
        wrong("0+5;x", 4);
        wrong("0>0;7+1", 2);
        wrong("0+5;0>0;7", 6);
        wrong("0+5;6~6", 6);
        for (int at = 0; at < SIGNS.length(); at++) {
            String sign = SIGNS.substring(at, at + 1);
            wrong("0+5;!" + sign, 4);
        }
    }

    private static void anyLength() {
        String whole = "0+1;".repeat(15);
        Check.same("60 characters, and no orders yet", typed(whole).firstError(), 60);
        Check.refuses("run of them", () -> typed(60), Check.ARGUMENT, y -> y.run());
        Check.same("59 characters are orders", typed(59).run(), 15);
        String begun = whole.substring(0, 56);
        begun(begun.substring(0, 52) + "0+123;0>");
        begun(begun.substring(0, 52) + "0+1234;6");
        begun(begun + "0+");
        wrong(begun + "0+1x", 59);
        wrong(begun + "0>00", 58);
        wrong(begun + "7", 56);
        Check.same("the 57th alone", typed(begun + "0").firstError(), 57);
        HerdCords last = typed(begun + "0+99");
        Check.same("60 characters of orders", last.firstError(), 60);
        Check.same("run of them", last.run(), 15);
        Check.same("with the last digit", last.cordOf(0, 0), 14 + 99);
    }

    private static void append() {
        Check.sentence("Promise 9", "Appends a character to the buffer.");
        HerdCords x = typed("0+");
        x.append('1');
        x.append('2');
        Check.same("behind the others", x.run(), 1);
        Check.same("in their order", x.cordOf(0, 0), 12);
        Check.sentence("Promise 9", "- `code`: the character code, 33 to 126");
        for (int code = 33; code <= 126; code++) {
            Check.same("code " + code, new HerdCords().append(code), 1);
        }
        Check.sentence("Promise 9", "Returns the new length of the buffer.");
        Check.same("1", new HerdCords().append(33), 1);
        Check.same("59", typed(58).append(126), 59);
        Check.same("60", typed(59).append(126), 60);
        HerdCords again = typed(60);
        again.clearBuffer();
        Check.same("1 of a cleared one", again.append(48), 1);
        HerdCords ran = typed(59);
        ran.run();
        Check.same("1 behind run", ran.append(48), 1);
        Check.same("not undoable", again.count(9), 0);
    }

    private static void appendWrong() {
        int[] codes = {Made.MIN, -33, -1, 0, 10, 32, 127, 128, 255, 256 + 48, 65536 + 48, Made.MAX};
        Check.sentence("Promise 9", "Throws `IllegalArgumentException` if code is not 33 to 126");
        for (int code : codes) {
            Check.refuses("code " + code, () -> typed(3), Check.ARGUMENT, x -> x.append(code));
            Check.refuses("ahead of a full buffer: " + code, () -> typed(60), Check.ARGUMENT, x -> x.append(code));
        }
        Check.sentence("Promise 9", "Throws `IllegalStateException` if the buffer has 60 characters");
        Check.refuses("the least code", () -> typed(60), Check.STATE, x -> x.append(33));
        Check.refuses("the largest code", () -> typed(60), Check.STATE, x -> x.append(126));
        Check.same("59 characters are no reason", typed(59).append(33), 60);
    }

    private static void clearBuffer() {
        Check.sentence("Promise 10", "Clears the buffer.");
        HerdCords x = typed("0+5x");
        x.clearBuffer();
        Check.same("no error is left", x.firstError(), 0);
        Check.refuses("no orders are left", () -> cleared(), Check.ARGUMENT, y -> y.run());
        Check.same("as a new object", x.digest(), new HerdCords().digest());
        Check.type(x, "1+");
        Check.same("nothing old behind it", x.firstError(), 2);
        Check.same("not undoable", x.count(9), 0);
        Check.sentence("Promise 10", "Returns the length that it had.");
        Check.same("0", new HerdCords().clearBuffer(), 0);
        Check.same("1", typed(1).clearBuffer(), 1);
        Check.same("60", typed(60).clearBuffer(), 60);
        HerdCords twice = typed(60);
        twice.clearBuffer();
        Check.same("0 the second time", twice.clearBuffer(), 0);
    }

    private static HerdCords cleared() {
        HerdCords x = typed("0+5");
        x.clearBuffer();
        return x;
    }

    private static void firstError() {
        Check.sentence("Promise 11", "Finds the first syntax error of the buffer.");
        Check.same("of two the first", typed("0+0;8").firstError(), 2);
        Check.changesNothing("to look for it", () -> typed("0+5;7"), x -> x.firstError());
        Check.changesNothing("nor if there is none", () -> typed("0+5"), x -> x.firstError());
        HerdCords again = typed("0+0");
        again.firstError();
        Check.same("the same answer again", again.firstError(), 2);
        Check.sentence("Promise 11", "Returns the index of the first character that is a syntax error; the length of the "
            + "buffer if there is none.");
        Check.same("the first character", typed("+").firstError(), 0);
        Check.same("the last of 60", typed("0+5;".repeat(14) + "0+5+").firstError(), 59);
        Check.same("the first of 60", typed("x" + "0+5;".repeat(14) + "0+5").firstError(), 0);
        Check.same("none in nothing", new HerdCords().firstError(), 0);
        Check.same("none in one", typed("6").firstError(), 1);
        Check.same("none in 60", typed(60).firstError(), 60);
    }

    private static void run() {
        Check.sentence("Promise 12", "Does the orders in the buffer as tie(), add() and slip() do, one after the other, up to "
            + "the first one that is refused (and counted so), and clears the buffer.");
        HerdCords x = typed("1+95;1+7;1>2;2~2;2>1");
        x.run();
        Check.same("1 tells 95, 7 and 2", x.cordOf(1, 0), 104);
        Check.same("as parts", x.part(1, 2), 2);
        Check.same("2 told 102, less 100", x.cordOf(2, 0), 2);
        Check.same("it lacks", x.cordOf(2, 3), 100);
        Check.same("one slipped", x.count(4), 1);
        Check.same("the buffer", x.clearBuffer(), 0);
        Check.sentence("Promise 12", "Undoable, as one call, also if none is done.");
        Check.same("one saved state", x.count(9), 1);
        undoneButTheBuffer("all done", "0+5;0>1;1~0");
        undoneButTheBuffer("one done", "0+5;0~1;1+1");
        undoneButTheBuffer("none done", "0~0;0+5");
    }

    /** The buffer is cleared by run, and undo does not bring it back. */
    private static void undoneButTheBuffer(String what, String text) {
        HerdCords x = typed(text);
        x.run();
        Check.same(what + ": a saved state", x.count(9), 1);
        Check.same(what + ": undone", x.undo(), 0);
        Check.same(what + ": as a new object", x.digest(), new HerdCords().digest());
    }

    private static void runAsTheCallsDo() {
        HerdCords x = typed("0+99;0+1;0>1;1~2;1+5;6+999999");
        HerdCords twin = new HerdCords();
        Check.same("all six", x.run(), 6);
        twin.tie(0, 99);
        twin.tie(0, 1);
        twin.add(0, 1);
        twin.slip(1, 2);
        twin.tie(1, 5);
        twin.tie(6, 999999);
        x.keep(0);
        twin.keep(0);
        Made.settled(x);
        Made.settled(twin);
        Check.sameWhole("run and the calls", x, twin);
        HerdCords most = typed("6+999999");
        most.run();
        Check.same("the largest number", most.cordOf(6, 0), 999999);
        HerdCords least = typed("0+1");
        least.run();
        Check.same("the least number", least.cordOf(0, 0), 1);
        HerdCords edges = typed("6+100000;0+1;0>6;6>0;6~5;0~0");
        Check.same("the first and the last cords and places", edges.run(), 6);
        Check.same("cord 6", edges.cordOf(6, 0), 1);
        Check.same("cord 0", edges.cordOf(0, 0), 100001);
    }

    private static void runUpToTheFirstRefused() {
        stopsBehindOne("the reason 1", Made.tied(999999), "1+5;0+1;1+6");
        HerdCords full = Made.full();
        stopsBehindOne("the reason 2", full, "1+5;0+1;1+6");
        HerdCords sixteen = Made.sixteenParts();
        stopsBehindOne("the reason 3", sixteen, "1+5;0+1;1+6");
        stopsBehindOne("the reason 1 of adding", Made.tied(999999), "1+5;1>0;1+6");
        stopsBehindOne("the reason 3 of adding", Made.sixteenParts(), "1+5;1>0;1+6");
        stopsBehindOne("no knot to slip", Made.tied(9), "1+5;0~1;1+6");
    }

    private static void stopsBehindOne(String what, HerdCords x, String text) {
        int refused = x.count(6);
        int saved = x.count(9);
        Check.type(x, text);
        Check.same(what + ": done", x.run(), 1);
        Check.same(what + ": what was done ahead stays", x.cordOf(1, 0), 5);
        Check.same(what + ": counted once", x.count(6), refused + 1);
        Check.same(what + ": one saved state", x.count(9), saved + 1);
        Check.same(what + ": the buffer", x.clearBuffer(), 0);
    }

    private static void runAnswers() {
        Check.sentence("Promise 12", "Returns how many are done.");
        Check.same("none", typed("0~0").run(), 0);
        Check.same("none of three", typed("0~0;0+5;0+5").run(), 0);
        Check.same("one", typed("0+5").run(), 1);
        Check.same("all but the last", typed("0+5;0~0;0~5").run(), 2);
        Check.same("15, the most", typed(59).run(), 15);
        Check.same("a cord that tells 0 is added and not refused", typed("0>1;1>0;2+1").run(), 3);
        Check.same("a slip that leaves none is not refused", typed("0+1;0~0;0+1").run(), 3);
        HerdCords nothing = Made.sixteenParts();
        Check.type(nothing, "1>0;1+1");
        Check.same("nor whatever the second one is", nothing.run(), 2);
    }

    private static void runWrong() {
        Check.sentence("Promise 12", "Throws `IllegalArgumentException` if the buffer does not tell orders as a text");
        String[] texts = {"", "0", "0+", "0>", "0~", "0+5;", "0+5;6", "0+5;6~", "0+0", "0+05", "0+1000000", "0>0", "0>7",
            "0~6", "7+1", "0+5;;0+5", ";", "0+5,0+5", "0+5;0>1>2"};
        for (String text : texts) {
            Check.refuses("run of " + text, () -> mixedWith(text), Check.ARGUMENT, x -> x.run());
            HerdCords x = mixedWith(text);
            Check.isThrown("run of " + text, Check.ARGUMENT, () -> x.run());
            Check.same("the buffer stays: " + text, x.clearBuffer(), text.length());
        }
    }

    private static HerdCords mixedWith(String text) {
        HerdCords x = Made.mixed();
        Check.retype(x, text);
        return x;
    }
}
