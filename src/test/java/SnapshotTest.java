/** Promises 13 to 15: snapshots and undo. */
public final class SnapshotTest {
    public static void main(String[] args) {
        promise13Keep();
        promise14GoBack();
        promise14Wrong();
        promise15Undo();
        promise15Most();
        promise15Parts();
        promise15Everything();
        Check.end();
    }

    private static void promise13Keep() {
        HerdCords x = new HerdCords();
        Check.same("13: no ties", x.keep(0), 0);
        x.tie(0, 95);
        x.tie(0, 7);
        Check.same("13: ties", x.keep(1), 25);
        Check.same("13: not undoable", x.count(9), 2);
        Check.refuses("13: slot 2", x, Check.ARGUMENT, () -> x.keep(2));
        Check.refuses("13: slot -1", x, Check.ARGUMENT, () -> x.keep(-1));
        x.keep(0);
        x.renew(0);
        Check.same("13: in place of the one before", x.goBack(0), 25);
        Check.same("13: tells", x.cordOf(0, 0), 102);
    }

    private static void promise14GoBack() {
        HerdCords x = new HerdCords();
        x.tie(0, 95);
        x.set(50);
        x.dye(0, 3);
        x.slip(0, 0);
        x.keep(0);
        x.tie(0, 7);
        x.set(60);
        x.dye(0, 1);
        x.slip(0, 0);
        x.slip(5, 0);
        x.renew(0);
        Check.type(x, "1~");
        Check.same("14: ties then", x.goBack(0), 13);
        Check.same("14: tells", x.cordOf(0, 0), 94);
        Check.same("14: parts", x.cordOf(0, 2), 1);
        Check.same("14: a part", x.part(0, 0), 95);
        Check.same("14: hue", x.cordOf(0, 6), 3);
        Check.same("14: slips of it", x.cordOf(0, 7), 1);
        Check.same("14: knots so far", x.count(2), 14);
        Check.same("14: loops so far", x.count(3), 0);
        Check.same("14: slips so far", x.count(4), 1);
        Check.same("14: gone so far", x.count(5), 0);
        Check.same("14: refused so far", x.count(6), 0);
        Check.same("14: setting", x.count(8), 50);
        Check.same("14: saved states are not of it", x.count(9), 6);
        Check.same("14: the buffer is not of it", x.clearBuffer(), 2);
        x.tie(0, 1);
        Check.same("14: the snapshot stays", x.goBack(0), 13);
        Check.same("14: undone", x.undo(), 5);
        Check.same("14: as before it", x.cordOf(0, 0), 95);
    }

    private static void promise14Wrong() {
        HerdCords x = new HerdCords();
        x.keep(0);
        Check.refuses("14: slot 2", x, Check.ARGUMENT, () -> x.goBack(2));
        Check.refuses("14: slot -1", x, Check.ARGUMENT, () -> x.goBack(-1));
        Check.refuses("14: empty", x, Check.STATE, () -> x.goBack(1));
        Check.same("14: the other slot", x.goBack(0), 0);
        x.undo();
        Check.same("14: undo leaves the slots", x.goBack(0), 0);
    }

    private static void promise15Undo() {
        HerdCords x = new HerdCords();
        Check.refuses("15: none", x, Check.STATE, () -> x.undo());
        x.tie(0, 5);
        x.tie(0, 6);
        x.keep(0);
        Check.same("15: one is left", x.undo(), 1);
        Check.same("15: the latest one", x.cordOf(0, 0), 5);
        Check.same("15: ties so far", x.count(2), 5);
        Check.type(x, "0+");
        Check.same("15: none is left", x.undo(), 0);
        Check.same("15: the first one", x.cordOf(0, 0), 0);
        Check.same("15: the buffer stays", x.clearBuffer(), 2);
        Check.refuses("15: none again", x, Check.STATE, () -> x.undo());
        Check.same("15: the slot stays", x.goBack(0), 13);
    }

    private static void promise15Most() {
        HerdCords x = new HerdCords();
        for (int time = 1; time <= 8; time++) {
            x.tie(0, 1);
            Check.same("15: saved states", x.count(9), Math.min(time, 6));
        }
        for (int left = 5; left >= 0; left--) {
            Check.same("15: left", x.undo(), left);
            Check.same("15: tells", x.cordOf(0, 0), left + 2);
        }
        Check.refuses("15: the oldest ones are dropped", x, Check.STATE, () -> x.undo());
        x.tie(0, 40);
        x.undo();
        Check.same("15: saved again and undone", x.cordOf(0, 0), 2);
    }

    private static void promise15Parts() {
        HerdCords x = new HerdCords();
        x.tie(0, 95);
        x.tie(0, 7);
        x.renew(0);
        x.tie(0, 8);
        x.undo();
        x.undo();
        Check.same("15: the first part again", x.part(0, 0), 95);
        Check.same("15: the second part again", x.part(0, 1), 7);
        Check.same("15: together", x.cordOf(0, 1), 102);
    }

    /** Each undoable call, one after the other, is undone to the very state before it. */
    private static void promise15Everything() {
        HerdCords x = new HerdCords();
        x.tie(0, 999999);
        x.tie(1, 55);
        x.keep(1);
        undoes(x, "tie", () -> x.tie(1, 88));
        undoes(x, "tie refused", () -> x.tie(0, 1));
        undoes(x, "add", () -> x.add(1, 2));
        undoes(x, "add of nothing", () -> x.add(3, 2));
        undoes(x, "slip", () -> x.slip(1, 0));
        undoes(x, "slip refused", () -> x.slip(1, 4));
        undoes(x, "mend of nothing", () -> x.mend(1));
        x.slip(1, 1);
        undoes(x, "mend", () -> x.mend(1));
        undoes(x, "renew", () -> x.renew(1));
        undoes(x, "dye", () -> x.dye(1, 2));
        undoes(x, "set", () -> x.set(99));
        undoes(x, "goBack", () -> x.goBack(1));
    }

    private static void undoes(HerdCords x, String what, Runnable call) {
        long before = looks(x);
        int saved = x.count(9);
        call.run();
        Check.same("15: saved by " + what, x.count(9), Math.min(saved + 1, 6));
        x.undo();
        Check.same("15: undone " + what, looks(x), before);
    }

    /** The digest would not do here: it tells the saved states, of which one may be dropped by the call. */
    private static long looks(HerdCords x) {
        long hash = 7;
        for (int what = 0; what <= 8; what++) {
            hash = 31 * hash + x.count(what);
        }
        for (int cord = 0; cord < 7; cord++) {
            for (int what = 0; what <= 7; what++) {
                hash = 31 * hash + x.cordOf(cord, what);
            }
            for (int place = 0; place < 6; place++) {
                hash = 31 * hash + x.placeOf(cord, place, 0);
                hash = 31 * hash + x.placeOf(cord, place, 1);
            }
            for (int rank = 0; rank < 16; rank++) {
                hash = 31 * hash + x.part(cord, rank);
            }
        }
        return hash;
    }
}
