/** The edges that the promises 1 to 8 name. */
final class TyingEdges {
    private static final String NO_CORD = "Throws `IndexOutOfBoundsException` if there is no such cord";

    private TyingEdges() {
    }

    static void all() {
        newObject();
        tie();
        tieRange();
        tieAnswers();
        add();
        addRange();
        addAnswers();
        addOfNothing();
        slip();
        slipAnswers();
        mend();
        mendAnswers();
        mendRefused();
        renew();
        renewAsNew();
        dye();
        set();
    }

    private static void newObject() {
        Check.sentence("Promise 1", "Creates cords without knots, with empty slots and an empty buffer.");
        HerdCords x = new HerdCords();
        for (int cord = 0; cord < 7; cord++) {
            for (int what = 0; what <= 7; what++) {
                Check.same("cordOf " + cord + " " + what, x.cordOf(cord, what), 0);
            }
        }
        for (int what = 0; what <= 9; what++) {
            Check.same("count " + what, x.count(what), what == 8 ? 40 : 0);
        }
        Check.refuses("slot 0 is empty", HerdCords::new, Check.STATE, y -> y.goBack(0));
        Check.refuses("slot 1 is empty", HerdCords::new, Check.STATE, y -> y.goBack(1));
        Check.refuses("no saved state", HerdCords::new, Check.STATE, y -> y.undo());
        Check.refuses("no orders", HerdCords::new, Check.ARGUMENT, y -> y.run());
        Check.same("the first error of nothing", x.firstError(), 0);
        Check.same("the length of the buffer", x.clearBuffer(), 0);
        long fresh = x.digest();
        HerdCords other = Made.mixed();
        other.append(33);
        Check.same("another object is not part of it", x.digest(), fresh);
        Check.same("each new one is as the first", new HerdCords().digest(), fresh);
    }

    private static void tie() {
        Check.sentence("Promise 2", "Ties a number onto a cord, as a part.");
        HerdCords x = Made.parts(7);
        x.tie(0, 20);
        Check.same("behind the other parts", x.part(0, 1), 20);
        Check.same("together", x.cordOf(0, 1), 27);
        Check.same("by knots", x.cordOf(0, 4), 9);
        Check.sentence("Promise 2", "Undoable, also if it is refused.");
        Check.undoable("tied", HerdCords::new, y -> y.tie(0, 5));
        Check.undoable("refused for 1", () -> Made.tied(999999), y -> y.tie(0, 1));
        Check.undoable("refused for 2", Made::full, y -> y.tie(0, 1));
        Check.undoable("refused for 3", Made::sixteenParts, y -> y.tie(0, 1));
    }

    private static void tieRange() {
        Check.sentence("Promise 2", "- `cord`: 0 to 6");
        for (int cord = 0; cord <= 6; cord++) {
            HerdCords x = new HerdCords();
            Check.same("cord " + cord, x.tie(cord, 5), 10);
            for (int other = 0; other <= 6; other++) {
                Check.same("cord " + other + " then", x.cordOf(other, 0), other == cord ? 5 : 0);
            }
        }
        Check.sentence("Promise 2", NO_CORD);
        for (int cord : new int[] {Made.MIN, -1, 7, Made.MAX}) {
            Check.refuses("cord " + cord, Made::mixed, Check.INDEX, x -> x.tie(cord, 1));
            Check.refuses("cord and number", Made::mixed, Check.INDEX, x -> x.tie(cord, 0));
        }
        Check.sentence("Promise 2", "- `number`: 1 to 999999");
        Check.same("1", new HerdCords().tie(0, 1), 10);
        Check.same("2", new HerdCords().tie(0, 2), 10);
        Check.same("999998", new HerdCords().tie(0, 999998), 10);
        Check.same("999999", new HerdCords().tie(0, 999999), 10);
        Check.sentence("Promise 2", "Throws `IllegalArgumentException` if number is out of range");
        for (int number : new int[] {Made.MIN, -1, 0, 1000000, Made.MAX}) {
            Check.refuses("number " + number, Made::mixed, Check.ARGUMENT, x -> x.tie(3, number));
            Check.refuses("where all are refused: " + number, Made::mixed, Check.ARGUMENT, x -> x.tie(1, number));
        }
    }

    private static void tieAnswers() {
        Check.sentence("Promise 2", "Returns 10 and how many loops are tied by it, together; if it is refused the reason.");
        Check.same("no loop", Made.parts(99999).tie(0, 100000), 10);
        Check.same("one loop at place 0", Made.parts(9).tie(0, 1), 11);
        Check.same("one loop at place 4", Made.parts(90000).tie(0, 10000), 11);
        Check.same("two loops, not side by side", Made.parts(909).tie(0, 101), 12);
        Check.same("five loops, the most", Made.parts(99999).tie(0, 99999), 15);
        Check.same("five loops, by one knot", Made.parts(899999).tie(0, 1), 15);
        Check.same("loops that were there do not count", Made.parts(99, 1).tie(0, 5), 10);
        Check.same("the reason 1", Made.tied(999999).tie(0, 1), 1);
        Check.same("the reason 2", Made.full().tie(0, 1), 2);
        Check.same("the reason 3", Made.sixteenParts().tie(0, 1), 3);
    }

    private static void add() {
        Check.sentence("Promise 3", "Adds a cord to another one: what it tells is tied onto that, as a part; it stays as it "
            + "is.");
        HerdCords x = Made.tied(0, 70, 5);
        x.tie(1, 40);
        x.slip(1, 1);
        Check.same("100 of 110", x.add(1, 2), 10);
        Check.same("the part", x.part(2, 1), 100);
        Check.same("the second one tells", x.cordOf(2, 0), 105);
        Check.same("the first one tells", x.cordOf(1, 0), 100);
        Check.same("the parts of the first one", x.cordOf(1, 2), 2);
        Check.same("the first one lacks", x.cordOf(1, 3), 10);
        Check.same("ties of the first one", x.cordOf(1, 4), 12);
        Check.same("the other way", x.add(2, 1), 10);
        Check.same("the first one then", x.cordOf(1, 0), 205);
        Check.sentence("Promise 3", "Undoable, also if it is refused.");
        Check.undoable("added", () -> Made.tied(5), y -> y.add(0, 1));
        Check.undoable("of nothing", () -> Made.tied(5), y -> y.add(1, 0));
        Check.undoable("refused for 1", () -> Made.tied(999999, 1), y -> y.add(0, 1));
        Check.undoable("refused for 2", TyingEdges::oneAndFull, y -> y.add(1, 0));
        Check.undoable("refused for 3", TyingEdges::oneAndSixteen, y -> y.add(1, 0));
    }

    private static HerdCords oneAndFull() {
        HerdCords x = Made.full();
        x.tie(1, 1);
        return x;
    }

    private static HerdCords oneAndSixteen() {
        HerdCords x = Made.sixteenParts();
        x.tie(1, 1);
        return x;
    }

    private static void addRange() {
        Check.sentence("Promise 3", "- `from`: 0 to 6");
        Check.sentence("Promise 3", "- `to`: another cord");
        for (int from = 0; from <= 6; from++) {
            for (int to = 0; to <= 6; to++) {
                HerdCords x = new HerdCords();
                x.tie(from, 7);
                if (from != to) {
                    Check.same(from + " to " + to, x.add(from, to), 10);
                    Check.same("told by " + to, x.cordOf(to, 0), 7);
                    Check.same("told together", x.count(0), 14);
                }
            }
        }
        Check.sentence("Promise 3", NO_CORD);
        for (int cord : new int[] {Made.MIN, -1, 7, Made.MAX}) {
            Check.refuses("from " + cord, Made::mixed, Check.INDEX, x -> x.add(cord, 0));
            Check.refuses("to " + cord, Made::mixed, Check.INDEX, x -> x.add(0, cord));
            Check.refuses("of nothing to " + cord, Made::mixed, Check.INDEX, x -> x.add(6, cord));
            Check.refuses("both, and the same " + cord, Made::mixed, Check.INDEX, x -> x.add(cord, cord));
        }
        Check.sentence("Promise 3", "Throws `IllegalArgumentException` if both are the same");
        for (int cord = 0; cord <= 6; cord++) {
            int same = cord;
            Check.refuses("both are " + cord, Made::mixed, Check.ARGUMENT, x -> x.add(same, same));
        }
    }

    private static void addAnswers() {
        Check.sentence("Promise 3", "Returns 10 and how many loops are tied by it, together; if it is refused the reason; 0 "
            + "if the first one tells 0 (then nothing is tied, and it is not refused, whatever the second one is).");
        Check.same("no loop", Made.tied(1, 8).add(0, 1), 10);
        Check.same("a loop", Made.tied(1, 9).add(0, 1), 11);
        Check.same("five loops", Made.tied(1, 99999).add(0, 1), 15);
        Check.same("999999 onto nothing", Made.tied(999999).add(0, 6), 10);
        Check.same("up to 999999", Made.tied(1, 999998).add(0, 1), 10);
        Check.same("the reason 1", Made.tied(2, 999998).add(0, 1), 1);
        HerdCords full = oneAndFull();
        Check.same("the reason 2", full.add(1, 0), 2);
        Check.same("counted as refused", full.count(6), 1);
        HerdCords sixteen = oneAndSixteen();
        Check.same("the reason 3", sixteen.add(1, 0), 3);
        Check.same("counted as refused", sixteen.count(6), 1);
        Check.same("no part of it", sixteen.cordOf(0, 2), 16);
        sixteen.tie(1, 999998);
        Check.same("3 ahead of 1", sixteen.add(1, 0), 3);
        full.tie(1, 999998);
        Check.same("1 ahead of 2", full.add(1, 0), 1);
    }

    private static void addOfNothing() {
        ofNothing("onto 16 parts", Made.sixteenParts());
        ofNothing("onto a full place", Made.full());
        ofNothing("onto 999999", Made.tied(999999));
        ofNothing("onto nothing", new HerdCords());
        HerdCords closed = Made.tied(0, 9);
        closed.tie(1, 1);
        closed.slip(1, 1);
        Check.same("a cord with ties and parts, and none is open", closed.cordOf(1, 0), 0);
        Check.same("its ties", closed.cordOf(1, 4), 11);
        ofNothing("of closed knots alone", closed);
        HerdCords one = Made.tied(0, 10);
        Check.same("of a cord that tells little", one.add(1, 0), 10);
    }

    private static void ofNothing(String what, HerdCords x) {
        int refused = x.count(6);
        int parts = x.cordOf(0, 2);
        int ties = x.count(1);
        int saved = x.count(9);
        Check.same(what, x.add(1, 0), 0);
        Check.same(what + ": not refused", x.count(6), refused);
        Check.same(what + ": no part", x.cordOf(0, 2), parts);
        Check.same(what + ": no ties", x.count(1), ties);
        Check.same(what + ": saved", x.count(9), saved + 1);
    }

    private static void slip() {
        Check.sentence("Promise 4", "Lets a knot slip.");
        HerdCords x = Made.tied(22);
        Check.same("one of two", x.slip(0, 1), 1);
        Check.same("it tells", x.cordOf(0, 0), 12);
        Check.same("slips of the cord", x.cordOf(0, 7), 1);
        Check.same("slips of all", x.count(4), 1);
        Check.same("knots tied so far stay", x.count(2), 4);
        Check.same("its part stays", x.part(0, 0), 22);
        Check.sentence("Promise 4", "Undoable, also if it is refused.");
        Check.undoable("slipped", () -> Made.tied(5), y -> y.slip(0, 0));
        Check.undoable("refused", () -> Made.tied(5), y -> y.slip(0, 1));
        Check.sentence("Promise 4", "- `cord`: 0 to 6");
        Check.sentence("Promise 4", "- `place`: 0 to 5");
        HerdCords all = Made.tied(999999, 999999, 999999, 999999, 999999, 999999, 999999);
        for (int cord = 0; cord <= 6; cord++) {
            for (int place = 0; place <= 5; place++) {
                Check.same("cord " + cord + ", place " + place, all.slip(cord, place), 8);
                Check.same("its knots", all.placeOf(cord, place, 0), 8);
                Check.same("no others", all.count(1), 7 * 54 - 6 * cord - place - 1);
            }
        }
        Check.sentence("Promise 4", "Throws `IndexOutOfBoundsException` if there is no such cord or place");
        for (int cord : new int[] {Made.MIN, -1, 7, Made.MAX}) {
            Check.refuses("cord " + cord, Made::mixed, Check.INDEX, y -> y.slip(cord, 0));
        }
        for (int place : new int[] {Made.MIN, -1, 6, Made.MAX}) {
            Check.refuses("place " + place, Made::mixed, Check.INDEX, y -> y.slip(0, place));
            Check.refuses("both", Made::mixed, Check.INDEX, y -> y.slip(7, place));
        }
    }

    private static void slipAnswers() {
        Check.sentence("Promise 4", "Returns how many knots of the place are open then; NONE if it is refused, as none is "
            + "open.");
        HerdCords x = Made.tied(900000);
        for (int left = 8; left >= 0; left--) {
            Check.same("left", x.slip(0, 5), left);
        }
        Check.same("none is open", x.slip(0, 5), Made.NONE);
        Check.same("counted as refused", x.count(6), 1);
        Check.same("not as slipped", x.count(4), 9);
        Check.same("nor from the cord", x.cordOf(0, 7), 9);
        HerdCords closed = Made.tied(8);
        closed.tie(0, 3);
        Check.same("one open beside ten closed", closed.slip(0, 0), 0);
        Check.same("ten closed", closed.slip(0, 0), Made.NONE);
        Check.same("a new cord", closed.slip(6, 0), Made.NONE);
        Check.same("ten knots yet", closed.placeOf(0, 0, 0), 10);
    }

    private static void mend() {
        Check.sentence("Promise 5", "Mends a cord.");
        HerdCords x = Made.tied(305);
        x.slip(0, 2);
        x.slip(0, 0);
        x.mend(0);
        Check.same("it tells", x.cordOf(0, 0), 305);
        Check.same("it lacks", x.cordOf(0, 3), 0);
        Check.same("one part", x.cordOf(0, 2), 1);
        Check.same("knots so far", x.count(2), 10);
        Check.same("what slipped is not taken back", x.count(4), 2);
        Check.sentence("Promise 5", "Undoable, also if it is refused.");
        Check.undoable("mended", TyingEdges::lacksOne, y -> y.mend(0));
        Check.undoable("nothing lacked", () -> Made.tied(5), y -> y.mend(0));
        Check.undoable("a new cord", HerdCords::new, y -> y.mend(0));
        Check.undoable("refused for 1", TyingEdges::lacksTooMuch, y -> y.mend(0));
        Check.undoable("refused for 2", TyingEdges::lacksAndFull, y -> y.mend(0));
        Check.sentence("Promise 5", "- `cord`: 0 to 6");
        for (int cord = 0; cord <= 6; cord++) {
            HerdCords one = Made.tied(1, 1, 1, 1, 1, 1, 1);
            one.slip(cord, 0);
            one.slip((cord + 1) % 7, 0);
            Check.same("cord " + cord, one.mend(cord), 1);
            Check.same("no other one", one.count(7), 1);
        }
        Check.sentence("Promise 5", NO_CORD);
        for (int cord : new int[] {Made.MIN, -1, 7, Made.MAX}) {
            Check.refuses("cord " + cord, Made::mixed, Check.INDEX, y -> y.mend(cord));
        }
    }

    private static HerdCords lacksOne() {
        HerdCords x = Made.tied(1);
        x.slip(0, 0);
        return x;
    }

    /** Its parts are 1000000 together. */
    private static HerdCords lacksTooMuch() {
        HerdCords x = Made.tied(1);
        x.slip(0, 0);
        x.tie(0, 999999);
        return x;
    }

    /** With room 20: 20 ties at the place 0, and a knot lacks there. */
    private static HerdCords lacksAndFull() {
        HerdCords x = Made.full();
        x.slip(0, 0);
        x.tie(0, 1);
        return x;
    }

    private static void mendAnswers() {
        Check.sentence("Promise 5", "Returns what it lacked, 0 if nothing; 0 less the reason, -1 or -2, if it is refused.");
        Check.same("1", lacksOne().mend(0), 1);
        HerdCords all = Made.tied(999999);
        Made.slipAll(all, 0);
        Check.same("none is left", all.cordOf(0, 0), 0);
        Check.same("999999", all.mend(0), 999999);
        Check.same("it tells", all.cordOf(0, 0), 999999);
        Check.same("0 then", all.mend(0), 0);
        HerdCords none = Made.full();
        Check.same("0 at a full place", none.mend(0), 0);
        Check.same("0 of 16 parts", Made.sixteenParts().mend(0), 0);
        Check.same("0 of a new cord", none.mend(6), 0);
        Check.same("0 is not refused", none.count(6), 0);
        HerdCords edge = Made.tied(1);
        edge.slip(0, 0);
        edge.tie(0, 999998);
        Check.same("up to 999999", edge.mend(0), 1);
        Check.same("beyond 999999", lacksTooMuch().mend(0), -1);
        Check.same("no room", lacksAndFull().mend(0), -2);
        HerdCords room = lacksAndFull();
        room.set(21);
        Check.same("room for a knot, not for its loop", room.mend(0), -2);
        room.set(22);
        Check.same("room for both", room.mend(0), 1);
    }

    private static void mendRefused() {
        HerdCords x = lacksTooMuch();
        Check.same("-1", x.mend(0), -1);
        Check.same("counted as refused", x.count(6), 1);
        Check.same("it lacks yet", x.cordOf(0, 3), 1);
        Check.same("it tells yet", x.cordOf(0, 0), 999999);
        HerdCords full = lacksAndFull();
        Check.same("-2", full.mend(0), -2);
        Check.same("counted as refused", full.count(6), 1);
        Check.same("it lacks yet", full.cordOf(0, 3), 1);
        HerdCords both = lacksAndFull();
        both.tie(0, 999980);
        Check.same("for both reasons", both.cordOf(0, 3) + both.cordOf(0, 0), 1000000);
        Check.same("1 ahead of 2", both.mend(0), -1);
        HerdCords carried = Made.tied(9);
        carried.set(20);
        carried.slip(0, 0);
        Made.tieTimes(carried, 0, 90, 2);
        carried.tie(0, 11);
        Check.same("no room for the knot carried", carried.mend(0), -2);
        HerdCords far = new HerdCords();
        for (int time = 0; time < 16; time++) {
            far.tie(0, 900000);
            Made.slipTimes(far, 0, 5, 9);
        }
        Check.same("it lacks more than any number", far.cordOf(0, 3), 14400000);
        Check.same("16 parts are no reason, what it would tell is", far.mend(0), -1);
    }

    private static void renew() {
        Check.sentence("Promise 6", "Puts a new cord in place of one, with the same hue.");
        HerdCords x = Made.mixed();
        x.dye(3, 2);
        x.renew(3);
        for (int what = 0; what <= 7; what++) {
            Check.same("cordOf 3 " + what, x.cordOf(3, what), what == 6 ? 2 : 0);
        }
        for (int place = 0; place < 6; place++) {
            Check.same("knots", x.placeOf(3, place, 0), 0);
            Check.same("loops", x.placeOf(3, place, 1), 0);
            Check.same("room", x.placeOf(3, place, 3), 20);
        }
        Check.same("no parts", x.part(3, 0), Made.NONE);
        Check.same("other cords stay", x.cordOf(0, 0), 999999);
        Check.same("slips so far stay", x.count(4), 1);
        Check.sentence("Promise 6", "Undoable.");
        Check.undoable("renewed", () -> Made.tied(5), y -> y.renew(0));
        Check.undoable("a new one renewed", HerdCords::new, y -> y.renew(6));
        Check.sentence("Promise 6", "- `cord`: 0 to 6");
        for (int cord = 0; cord <= 6; cord++) {
            HerdCords all = Made.tied(1, 2, 4, 8, 16, 32, 64);
            Check.same("cord " + cord, all.renew(cord), 1 << cord);
            Check.same("no other one", all.count(0), 127 - (1 << cord));
        }
        Check.sentence("Promise 6", NO_CORD);
        for (int cord : new int[] {Made.MIN, -1, 7, Made.MAX}) {
            Check.refuses("cord " + cord, Made::mixed, Check.INDEX, y -> y.renew(cord));
        }
    }

    private static void renewAsNew() {
        Check.sentence("Promise 6", "Returns what the old one told.");
        HerdCords x = Made.tied(999999);
        Check.same("the most", x.renew(0), 999999);
        Check.same("gone with it", x.count(5), 54);
        Check.same("nothing", x.renew(0), 0);
        Check.same("nothing goes with a new one", x.count(5), 54);
        x.tie(0, 10);
        x.slip(0, 1);
        Check.same("nothing but a part", x.renew(0), 0);
        Check.same("what slipped does not go with it", x.count(5), 54);
        HerdCords sixteen = Made.sixteenParts();
        sixteen.renew(0);
        for (int part = 1; part <= 16; part++) {
            Check.same("part " + part + " of the new one", sixteen.tie(0, 2), part % 5 == 0 ? 11 : 10);
        }
        Check.same("no 17th", sixteen.tie(0, 2), 3);
        HerdCords full = Made.full();
        Check.same("19", full.renew(0), 19);
        Check.same("knots and loops of all places", full.count(5), 21);
        Check.same("room again", full.tie(0, 9), 10);
    }

    private static void dye() {
        Check.sentence("Promise 7", "Changes the hue of a cord.");
        HerdCords x = Made.tied(5);
        x.dye(0, 3);
        Check.same("it is so", x.cordOf(0, 6), 3);
        Check.same("other cords stay", x.cordOf(1, 6), 0);
        Check.same("its knots stay", x.cordOf(0, 0), 5);
        Check.sentence("Promise 7", "Undoable.");
        Check.undoable("another hue", HerdCords::new, y -> y.dye(0, 5));
        Check.undoable("the same hue", HerdCords::new, y -> y.dye(0, 0));
        Check.sentence("Promise 7", "- `cord`: 0 to 6");
        Check.sentence("Promise 7", "- `hue`: 0 to 5");
        Check.sentence("Promise 7", "Returns the hue before.");
        for (int cord = 0; cord <= 6; cord++) {
            HerdCords y = new HerdCords();
            for (int hue = 0; hue <= 5; hue++) {
                Check.same("the hue before " + hue, y.dye(cord, hue), Math.max(0, hue - 1));
                Check.same("the same before " + hue, y.dye(cord, hue), hue);
            }
            Check.same("from 5 to 0", y.dye(cord, 0), 5);
        }
        Check.sentence("Promise 7", NO_CORD);
        for (int cord : new int[] {Made.MIN, -1, 7, Made.MAX}) {
            Check.refuses("cord " + cord, Made::mixed, Check.INDEX, y -> y.dye(cord, 0));
            Check.refuses("cord and hue", Made::mixed, Check.INDEX, y -> y.dye(cord, 6));
        }
        Check.sentence("Promise 7", "Throws `IllegalArgumentException` if hue is out of range");
        for (int hue : new int[] {Made.MIN, -1, 6, Made.MAX}) {
            Check.refuses("hue " + hue, Made::mixed, Check.ARGUMENT, y -> y.dye(4, hue));
        }
    }

    private static void set() {
        Check.sentence("Promise 8", "Changes the setting.");
        HerdCords x = new HerdCords();
        x.set(41);
        Check.same("it is so", x.count(8), 41);
        Check.same("room of a place", x.placeOf(0, 0, 3), 41);
        Check.sentence("Promise 8", "Undoable.");
        Check.undoable("another one", HerdCords::new, y -> y.set(99));
        Check.undoable("the same one", HerdCords::new, y -> y.set(40));
        Check.sentence("Promise 8", "- `value`: 20 to 99");
        Check.sentence("Promise 8", "Returns the previous value.");
        int before = 41;
        for (int value = 20; value <= 99; value++) {
            Check.same("before " + value, x.set(value), before);
            before = value;
        }
        Check.same("the same one", x.set(99), 99);
        Check.same("from the most to the least", x.set(20), 99);
        Check.same("from the least", x.set(40), 20);
        Check.sentence("Promise 8", "Throws `IllegalArgumentException` if value is out of range");
        for (int value : new int[] {Made.MIN, -1, 0, 19, 100, Made.MAX}) {
            Check.refuses("value " + value, Made::mixed, Check.ARGUMENT, y -> y.set(value));
        }
    }
}
