/** Promises 1 to 8: a new object, and what changes cords and the setting. */
public final class TyingTest {
    public static void main(String[] args) {
        promise1NewObject();
        promise2Tie();
        promise2Refusals();
        promise2Wrong();
        promise3Add();
        promise3Wrong();
        promise4Slip();
        promise5Mend();
        promise5Refusals();
        promise6Renew();
        promise7Dye();
        promise8Set();
        Check.end();
    }

    private static void promise1NewObject() {
        HerdCords x = new HerdCords();
        for (int what = 0; what <= 9; what++) {
            Check.same("1: count " + what, x.count(what), what == 8 ? 40 : 0);
        }
        for (int cord = 0; cord < 7; cord++) {
            for (int what = 0; what <= 7; what++) {
                Check.same("1: cordOf " + cord + " " + what, x.cordOf(cord, what), 0);
            }
            for (int place = 0; place < 6; place++) {
                for (int what = 0; what <= 3; what++) {
                    Check.same("1: placeOf " + cord + " " + place + " " + what, x.placeOf(cord, place, what),
                        what == 3 ? 40 : 0);
                }
            }
            Check.same("1: part " + cord, x.part(cord, 0), HerdCords.NONE);
        }
        Check.same("1: the buffer", x.clearBuffer(), 0);
        Check.isThrown("1: slot 0", Check.STATE, () -> x.goBack(0));
        Check.isThrown("1: slot 1", Check.STATE, () -> x.goBack(1));
        Check.isThrown("1: saved states", Check.STATE, () -> x.undo());
    }

    private static void promise2Tie() {
        HerdCords x = new HerdCords();
        Check.same("2: no loop", x.tie(0, 95), 10);
        Check.same("2: two loops", x.tie(0, 7), 12);
        Check.same("2: tells", x.cordOf(0, 0), 102);
        Check.same("2: knots of ones", x.placeOf(0, 0, 0), 12);
        Check.same("2: knots of tens", x.placeOf(0, 1, 0), 10);
        Check.same("2: knots of hundreds", x.placeOf(0, 2, 0), 1);
        Check.same("2: loops", x.cordOf(0, 5), 2);
        Check.same("2: knots tied so far", x.count(2), 23);
        Check.same("2: loops tied so far", x.count(3), 2);
        Check.same("2: parts", x.cordOf(0, 2), 2);
        Check.same("2: the first part", x.part(0, 0), 95);
        Check.same("2: the second part", x.part(0, 1), 7);
        Check.same("2: saved states", x.count(9), 2);
        Check.same("2: five loops", tieBoth(99999, 1), 15);
        Check.same("2: the largest number", new HerdCords().tie(6, 999999), 10);
        Check.same("2: just up to the largest", tieBoth(999998, 1), 10);
    }

    private static int tieBoth(int first, int second) {
        HerdCords x = new HerdCords();
        x.tie(3, first);
        return x.tie(3, second);
    }

    private static void promise2Refusals() {
        HerdCords x = new HerdCords();
        x.tie(0, 999999);
        Check.same("2: tells too much", x.tie(0, 1), 1);
        Check.same("2: refused so far", x.count(6), 1);
        Check.same("2: nothing is tied", x.cordOf(0, 0), 999999);
        Check.same("2: no part more", x.cordOf(0, 2), 1);
        Check.same("2: saved, though refused", x.count(9), 2);
        Check.same("2: knots so far", x.count(2), 54);

        HerdCords full = new HerdCords();
        full.set(20);
        for (int time = 0; time < 2; time++) {
            Check.same("2: nine", full.tie(1, 9), time == 0 ? 10 : 11);
        }
        Check.same("2: one tie of room", full.placeOf(1, 0, 3), 1);
        Check.same("2: no room for a knot and a loop", full.tie(1, 2), 2);
        Check.same("2: room for one knot", full.tie(1, 1), 10);
        Check.same("2: no room", full.tie(1, 1), 2);
        Check.same("2: no room does not matter where nothing is tied", full.tie(1, 10), 10);
        Check.same("2: ahead of no room: tells too much", full.tie(1, 999999), 1);

        HerdCords parts = new HerdCords();
        for (int time = 0; time < 16; time++) {
            Check.same("2: part " + time, parts.tie(2, 10), time == 9 ? 11 : 10);
        }
        Check.same("2: 16 parts", parts.tie(2, 1), 3);
        Check.same("2: ahead of all: 16 parts", parts.tie(2, 999999), 3);
        Check.same("2: still 16 parts", parts.cordOf(2, 2), 16);
    }

    private static void promise2Wrong() {
        HerdCords x = new HerdCords();
        x.tie(0, 5);
        Check.refuses("2: cord -1", x, Check.INDEX, () -> x.tie(-1, 1));
        Check.refuses("2: cord 7", x, Check.INDEX, () -> x.tie(7, 1));
        Check.refuses("2: cord and number", x, Check.INDEX, () -> x.tie(7, 0));
        Check.refuses("2: number 0", x, Check.ARGUMENT, () -> x.tie(0, 0));
        Check.refuses("2: number below", x, Check.ARGUMENT, () -> x.tie(0, Integer.MIN_VALUE));
        Check.refuses("2: number 1000000", x, Check.ARGUMENT, () -> x.tie(0, 1000000));
    }

    private static void promise3Add() {
        HerdCords x = new HerdCords();
        Check.same("3: nothing to add", x.add(0, 1), 0);
        Check.same("3: no part by it", x.cordOf(1, 2), 0);
        Check.same("3: not refused", x.count(6), 0);
        Check.same("3: saved", x.count(9), 1);
        x.tie(0, 58);
        x.tie(0, 4);
        x.slip(0, 1);
        x.tie(1, 69);
        Check.same("3: by what it tells, not by its parts", x.add(0, 1), 12);
        Check.same("3: tells", x.cordOf(1, 0), 121);
        Check.same("3: the part", x.part(1, 1), 52);
        Check.same("3: the first one stays", x.cordOf(0, 0), 52);
        Check.same("3: its parts stay", x.cordOf(0, 2), 2);
        x.tie(2, 999999);
        Check.same("3: tells too much", x.add(2, 1), 1);
        Check.same("3: refused so far", x.count(6), 1);

        HerdCords parts = new HerdCords();
        for (int time = 0; time < 16; time++) {
            parts.tie(2, 1);
        }
        parts.tie(0, 3);
        Check.same("3: 16 parts", parts.add(0, 2), 3);
        Check.same("3: nothing to add, so not refused", parts.add(1, 2), 0);
        Check.same("3: refused once", parts.count(6), 1);
        parts.set(20);
        parts.tie(3, 9);
        parts.tie(3, 9);
        Check.same("3: no room", parts.add(0, 3), 2);
    }

    private static void promise3Wrong() {
        HerdCords x = new HerdCords();
        x.tie(0, 5);
        Check.refuses("3: from 7", x, Check.INDEX, () -> x.add(7, 0));
        Check.refuses("3: from -1", x, Check.INDEX, () -> x.add(-1, 0));
        Check.refuses("3: to 7", x, Check.INDEX, () -> x.add(0, 7));
        Check.refuses("3: to -1", x, Check.INDEX, () -> x.add(0, -1));
        Check.refuses("3: both 7", x, Check.INDEX, () -> x.add(7, 7));
        Check.refuses("3: the same", x, Check.ARGUMENT, () -> x.add(0, 0));
    }

    private static void promise4Slip() {
        HerdCords x = new HerdCords();
        x.tie(0, 302);
        Check.same("4: two are left", x.slip(0, 2), 2);
        Check.same("4: tells", x.cordOf(0, 0), 202);
        Check.same("4: knots", x.placeOf(0, 2, 0), 2);
        Check.same("4: one is left", x.slip(0, 0), 1);
        Check.same("4: none is left", x.slip(0, 0), 0);
        Check.same("4: none is open", x.slip(0, 0), HerdCords.NONE);
        Check.same("4: refused so far", x.count(6), 1);
        Check.same("4: slipped from it", x.cordOf(0, 7), 3);
        Check.same("4: slipped so far", x.count(4), 3);
        Check.same("4: knots tied stay", x.count(2), 5);
        Check.same("4: saved", x.count(9), 5);
        x.tie(1, 9);
        x.tie(1, 1);
        Check.same("4: closed knots do not slip", x.slip(1, 0), HerdCords.NONE);
        Check.same("4: nothing is changed", x.placeOf(1, 0, 0), 10);
        Check.refuses("4: cord 7", x, Check.INDEX, () -> x.slip(7, 0));
        Check.refuses("4: cord -1", x, Check.INDEX, () -> x.slip(-1, 0));
        Check.refuses("4: place 6", x, Check.INDEX, () -> x.slip(0, 6));
        Check.refuses("4: place -1", x, Check.INDEX, () -> x.slip(0, -1));
    }

    private static void promise5Mend() {
        HerdCords x = new HerdCords();
        x.tie(0, 409);
        Check.same("5: nothing lacks", x.mend(0), 0);
        Check.same("5: saved", x.count(9), 2);
        x.slip(0, 2);
        x.slip(0, 0);
        Check.same("5: lacks", x.mend(0), 101);
        Check.same("5: tells", x.cordOf(0, 0), 409);
        Check.same("5: no part more", x.cordOf(0, 2), 1);
        Check.same("5: lacks nothing then", x.cordOf(0, 3), 0);
        Check.same("5: knots tied so far", x.count(2), 15);
        Check.same("5: slips stay", x.cordOf(0, 7), 2);
        Check.same("5: not refused", x.count(6), 0);
        x.slip(0, 0);
        x.tie(0, 1);
        x.tie(0, 9);
        Check.same("5: one lacks", x.mend(0), 1);
        Check.same("5: loops", x.count(3), 1);
        Check.refuses("5: cord 7", x, Check.INDEX, () -> x.mend(7));
        Check.refuses("5: cord -1", x, Check.INDEX, () -> x.mend(-1));
    }

    private static void promise5Refusals() {
        HerdCords x = new HerdCords();
        x.tie(0, 100000);
        x.slip(0, 5);
        x.tie(0, 999999);
        Check.same("5: lacks", x.cordOf(0, 3), 100000);
        Check.same("5: tells too much", x.mend(0), -1);
        Check.same("5: refused so far", x.count(6), 1);
        Check.same("5: nothing is tied", x.cordOf(0, 0), 999999);

        HerdCords far = new HerdCords();
        for (int time = 0; time < 3; time++) {
            far.tie(0, 900000);
            for (int knot = 0; knot < 9; knot++) {
                far.slip(0, 5);
            }
        }
        Check.same("5: lacks more than a number", far.cordOf(0, 3), 2700000);
        Check.same("5: tells too much by far", far.mend(0), -1);

        HerdCords full = new HerdCords();
        full.set(20);
        full.tie(0, 9);
        full.tie(0, 9);
        full.slip(0, 0);
        full.tie(0, 2);
        Check.same("5: full", full.placeOf(0, 0, 3), 0);
        Check.same("5: no room", full.mend(0), -2);
        Check.same("5: refused once", full.count(6), 1);
        Check.same("5: saved", full.count(9), 6);

        HerdCords parts = new HerdCords();
        for (int time = 0; time < 16; time++) {
            parts.tie(0, 10);
        }
        parts.slip(0, 1);
        Check.same("5: 16 parts are no reason", parts.mend(0), 10);
    }

    private static void promise6Renew() {
        HerdCords x = new HerdCords();
        x.dye(0, 4);
        x.tie(0, 95);
        x.tie(0, 7);
        x.slip(0, 0);
        x.tie(1, 3);
        Check.same("6: what it told", x.renew(0), 101);
        Check.same("6: the hue stays", x.cordOf(0, 6), 4);
        for (int what = 0; what <= 7; what++) {
            Check.same("6: cordOf " + what, x.cordOf(0, what), what == 6 ? 4 : 0);
        }
        Check.same("6: no part", x.part(0, 0), HerdCords.NONE);
        Check.same("6: no knots", x.placeOf(0, 0, 0), 0);
        Check.same("6: gone with it", x.count(5), 24);
        Check.same("6: slipped so far", x.count(4), 1);
        Check.same("6: others stay", x.cordOf(1, 0), 3);
        Check.same("6: a new one", x.renew(2), 0);
        Check.same("6: nothing goes with it", x.count(5), 24);
        Check.same("6: the first part again", x.tie(0, 8), 10);
        Check.same("6: one part", x.part(0, 1), HerdCords.NONE);
        Check.refuses("6: cord 7", x, Check.INDEX, () -> x.renew(7));
        Check.refuses("6: cord -1", x, Check.INDEX, () -> x.renew(-1));
        HerdCords saved = new HerdCords();
        saved.renew(0);
        Check.same("6: saved", saved.count(9), 1);
    }

    private static void promise7Dye() {
        HerdCords x = new HerdCords();
        Check.same("7: the first hue", x.dye(6, 5), 0);
        Check.same("7: the hue before", x.dye(6, 5), 5);
        Check.same("7: another one", x.dye(6, 0), 5);
        Check.same("7: saved", x.count(9), 3);
        Check.refuses("7: cord 7", x, Check.INDEX, () -> x.dye(7, 0));
        Check.refuses("7: cord and hue", x, Check.INDEX, () -> x.dye(-1, 6));
        Check.refuses("7: hue 6", x, Check.ARGUMENT, () -> x.dye(0, 6));
        Check.refuses("7: hue -1", x, Check.ARGUMENT, () -> x.dye(0, -1));
    }

    private static void promise8Set() {
        HerdCords x = new HerdCords();
        Check.same("8: the first setting", x.set(20), 40);
        Check.same("8: the least", x.set(99), 20);
        Check.same("8: the most", x.set(40), 99);
        Check.same("8: saved", x.count(9), 3);
        Check.refuses("8: 19", x, Check.ARGUMENT, () -> x.set(19));
        Check.refuses("8: 100", x, Check.ARGUMENT, () -> x.set(100));
        for (int time = 0; time < 3; time++) {
            x.tie(0, 9);
        }
        x.set(20);
        Check.same("8: ties stay", x.placeOf(0, 0, 0), 27);
        Check.same("8: less room than ties", x.tie(0, 1), 2);
        Check.same("8: room elsewhere", x.tie(0, 10), 10);
        Check.same("8: slips go on", x.slip(0, 0), 6);
    }
}
