/** Promises 9 to 12: the buffer, its errors, and orders told by it. */
public final class TextTest {
    public static void main(String[] args) {
        promise9Append();
        promise10ClearBuffer();
        promise11Errors();
        promise11LongTexts();
        promise12Run();
        promise12Longest();
        promise12Refused();
        promise12Wrong();
        Check.end();
    }

    private static void promise9Append() {
        HerdCords x = new HerdCords();
        Check.same("9: the least code", x.append(33), 1);
        Check.same("9: the largest code", x.append(126), 2);
        Check.refuses("9: 32", x, Check.ARGUMENT, () -> x.append(32));
        Check.refuses("9: 127", x, Check.ARGUMENT, () -> x.append(127));
        Check.refuses("9: 65536 and 48", x, Check.ARGUMENT, () -> x.append(65536 + 48));
        for (int length = 3; length <= 60; length++) {
            Check.same("9: length " + length, x.append(48), length);
        }
        Check.refuses("9: full", x, Check.STATE, () -> x.append(48));
        Check.refuses("9: full, and no code", x, Check.ARGUMENT, () -> x.append(32));
        Check.same("9: not undoable", x.count(9), 0);
    }

    private static void promise10ClearBuffer() {
        HerdCords x = new HerdCords();
        Check.same("10: empty", x.clearBuffer(), 0);
        Check.type(x, "0+5");
        Check.same("10: three", x.clearBuffer(), 3);
        Check.same("10: empty again", x.clearBuffer(), 0);
        Check.same("10: not undoable", x.count(9), 0);
        Check.same("10: from the start", x.append(50), 1);
    }

    private static void firstErrorOf(String text, int due) {
        HerdCords x = new HerdCords();
        Check.type(x, text);
        long before = x.digest();
        Check.same("11: firstError of " + text, x.firstError(), due);
        Check.same("11: nothing is changed by " + text, x.digest(), before);
    }

    private static void promise11Errors() {
        String[] right = {"", "0", "6", "0+", "0+1", "6+9", "0+10", "0+999999", "0>", "0>6", "6>0", "3~", "3~0", "3~5",
            "0+5;", "0>1;", "2~4;1", "0+5;0+5;1>0;6~0"};
        for (String text : right) {
            firstErrorOf(text, text.length());
        }
        firstErrorOf("7", 0);
        firstErrorOf(";", 0);
        firstErrorOf("+", 0);
        firstErrorOf("/", 0);
        firstErrorOf("00", 1);
        firstErrorOf("0;", 1);
        firstErrorOf("0-", 1);
        firstErrorOf("0+0", 2);
        firstErrorOf("0+;", 2);
        firstErrorOf("0+05", 2);
        firstErrorOf("0+:", 2);
        firstErrorOf("0+1:", 3);
        firstErrorOf("0+1/", 3);
        firstErrorOf("0+1+", 3);
        firstErrorOf("0+9999999", 8);
        firstErrorOf("0+1000000", 8);
        firstErrorOf("0>0", 2);
        firstErrorOf("5>5", 2);
        firstErrorOf("0>7", 2);
        firstErrorOf("0>/", 2);
        firstErrorOf("0>11", 3);
        firstErrorOf("0~6", 2);
        firstErrorOf("0~/", 2);
        firstErrorOf("0~55", 3);
        firstErrorOf("3~3", 3);
        firstErrorOf("0+5;;", 4);
        firstErrorOf("0+5;7", 4);
        firstErrorOf("0+5;1>1", 6);
        firstErrorOf("0+5;1~6;9", 6);
        firstErrorOf("a0+5", 0);
    }

    private static void promise11LongTexts() {
        StringBuilder text = new StringBuilder();
        for (int time = 0; time < 15; time++) {
            text.append("0+5;");
        }
        firstErrorOf(text.toString(), 60);
        firstErrorOf(text.substring(0, 59), 59);
        firstErrorOf(text.substring(0, 59) + "x", 59);
        firstErrorOf(text.substring(0, 58) + "00", 58);
    }

    private static void promise12Run() {
        HerdCords x = new HerdCords();
        Check.type(x, "0+95;0+7;0>1;1~2;3>4;6+999999");
        Check.same("12: all six", x.run(), 6);
        Check.same("12: the buffer", x.clearBuffer(), 0);
        Check.same("12: cord 0", x.cordOf(0, 0), 102);
        Check.same("12: its loops", x.cordOf(0, 5), 2);
        Check.same("12: cord 1", x.cordOf(1, 0), 2);
        Check.same("12: its part", x.part(1, 0), 102);
        Check.same("12: cord 4", x.cordOf(4, 2), 0);
        Check.same("12: cord 6", x.cordOf(6, 0), 999999);
        Check.same("12: slipped", x.count(4), 1);
        Check.same("12: refused", x.count(6), 0);
        Check.same("12: one saved state", x.count(9), 1);
        Check.same("12: undone as one", x.undo(), 0);
        Check.same("12: nothing told then", x.count(0), 0);
        Check.same("12: the buffer is not brought back", x.clearBuffer(), 0);
    }

    private static void promise12Longest() {
        HerdCords x = new HerdCords();
        for (int time = 0; time < 14; time++) {
            Check.type(x, "0+1;");
        }
        Check.type(x, "0+55");
        Check.refuses("12: a full buffer", x, Check.STATE, () -> x.append(49));
        Check.same("12: 15 orders in 60 characters", x.run(), 15);
        Check.same("12: the sum of them", x.cordOf(0, 0), 69);
    }

    private static void promise12Refused() {
        HerdCords x = new HerdCords();
        Check.type(x, "0+5;1~0;0+7");
        Check.same("12: a slip is refused", x.run(), 1);
        Check.same("12: none behind it", x.cordOf(0, 0), 5);
        Check.same("12: counted", x.count(6), 1);
        Check.same("12: the buffer", x.clearBuffer(), 0);
        Check.type(x, "1+999999;0>1;0+7");
        Check.same("12: adding is refused", x.run(), 1);
        Check.same("12: counted twice", x.count(6), 2);
        Check.type(x, "1+1;0+7");
        Check.same("12: none is done", x.run(), 0);
        Check.same("12: counted thrice", x.count(6), 3);
        Check.same("12: saved, though none is done", x.count(9), 3);
        Check.same("12: nothing of it", x.cordOf(0, 0), 5);
        Check.type(x, "0~0;0~0");
        Check.same("12: down to four and three", x.run(), 2);
        Check.same("12: slips down to none", x.cordOf(0, 0), 3);
        Check.type(x, "0~0;0~0;0~0;0~0");
        Check.same("12: a slip down to 0 is done", x.run(), 3);
        Check.same("12: the setting holds", fillBySetting(), 2);
    }

    private static int fillBySetting() {
        HerdCords x = new HerdCords();
        x.set(20);
        Check.type(x, "0+9;0+9;0+9");
        return x.run();
    }

    private static void promise12Wrong() {
        HerdCords x = new HerdCords();
        x.tie(0, 5);
        String[] wrong = {"", "0", "0+", "0>", "0~", "0+5;", "0+5;1", "0+0", "0>0", "0~6", "7+1", "0+5;;0+5",
            "0+1000000", "0+5,0+5"};
        for (String text : wrong) {
            Check.retype(x, text);
            Check.refuses("12: run of " + text, x, Check.ARGUMENT, () -> x.run());
            Check.same("12: the buffer stays: " + text, x.clearBuffer(), text.length());
        }
    }
}
