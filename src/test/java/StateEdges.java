import java.util.function.Consumer;

/** The edges of snapshots and saved states, and those that the promises 13 to 15 name. */
final class StateEdges {
    private static final String TERMS = "Terms";
    private static final String NO_SLOT = "Throws `IllegalArgumentException` if slot is out of range";

    private StateEdges() {
    }

    static void all() {
        whatASnapshotIs();
        whatIsSaved();
        notUndoable();
        mostStates();
        oldestDropped();
        roundAndRound();
        keep();
        keepInPlace();
        goBack();
        goBackStays();
        undo();
        undoLeaves();
    }

    private static HerdCords kept(int slot) {
        HerdCords x = Made.tied(95);
        x.tie(0, 7);
        x.keep(slot);
        return x;
    }

    private static void whatASnapshotIs() {
        Check.sentence(TERMS, "There are two slots; a snapshot is all but the buffer, the slots and the saved states.");
        HerdCords x = Made.tied(95);
        x.tie(0, 7);
        x.slip(0, 0);
        x.slip(0, 5);
        x.renew(3);
        x.set(50);
        x.dye(6, 4);
        x.keep(0);
        long[] before = looks(x);
        x.keep(1);
        x.renew(0);
        x.tie(2, 9);
        x.tie(2, 1);
        x.tie(1, 999999);
        x.tie(1, 999999);
        x.slip(1, 0);
        x.dye(6, 1);
        x.set(99);
        x.keep(1);
        Check.type(x, "0+5");
        x.goBack(0);
        long[] then = looks(x);
        for (int at = 0; at < before.length; at++) {
            Check.same("look " + at, then[at], before[at]);
        }
        Check.same("the buffer is not of it", x.clearBuffer(), 3);
        Check.same("the saved states are not of it", x.count(9), 6);
        x.goBack(1);
        Check.same("the other slot is not of it", x.cordOf(1, 0), 999998);
        HerdCords two = Made.tied(1);
        two.keep(0);
        two.tie(0, 2);
        two.keep(1);
        two.renew(0);
        two.goBack(0);
        Check.same("slot 0", two.cordOf(0, 0), 1);
        two.goBack(1);
        Check.same("slot 1", two.cordOf(0, 0), 3);
    }

    /** All but the saved states, whose number goes on. */
    private static long[] looks(HerdCords x) {
        long[] all = new long[9 + 7 * 8 + 2];
        for (int what = 0; what <= 8; what++) {
            all[what] = x.count(what);
        }
        for (int at = 0; at < 56; at++) {
            all[9 + at] = x.cordOf(at / 8, at % 8);
        }
        all[65] = x.part(0, 0);
        all[66] = x.part(0, 1);
        return all;
    }

    private static void whatIsSaved() {
        Check.sentence(TERMS, "Each method that is marked \"undoable\" and does not throw an exception saves the state from "
            + "before it (also if it changes nothing, or is refused): all, also what is counted so far, but the buffer, the "
            + "slots and the saved states.");
        saves("tie", x -> x.tie(3, 5));
        saves("tie with a loop", x -> x.tie(3, 9));
        saves("tie, refused for 1", x -> x.tie(0, 1));
        saves("tie, refused for 2", x -> x.tie(2, 1));
        saves("tie, refused for 3", x -> x.tie(1, 1));
        saves("add", x -> x.add(3, 4));
        saves("add of nothing", x -> x.add(4, 3));
        saves("add, refused", x -> x.add(3, 0));
        saves("slip", x -> x.slip(0, 5));
        saves("slip, refused", x -> x.slip(4, 5));
        saves("mend", x -> x.mend(3));
        saves("mend of nothing", x -> x.mend(0));
        saves("renew", x -> x.renew(2));
        saves("renew of a new one", x -> x.renew(6));
        saves("dye", x -> x.dye(0, 1));
        saves("dye as it is", x -> x.dye(4, 5));
        saves("set", x -> x.set(99));
        saves("set as it is", x -> x.set(20));
        saves("goBack", x -> x.goBack(0));
        saves("goBack to what is", x -> x.goBack(1));
        HerdCords x = Made.tied(5);
        Check.type(x, "0+");
        x.keep(0);
        x.undo();
        Check.same("the buffer is not of it", x.clearBuffer(), 2);
        Check.same("the slots are not of it", x.goBack(0), 5);
        Check.same("what is counted so far is", x.undo(), 0);
        Check.same("knots tied", x.count(2), 0);
        eachCount();
    }

    /** Each number that is counted so far is changed once, and undone. */
    private static void eachCount() {
        HerdCords x = Made.tied(9, 7);
        Made.settled(x);
        x.tie(0, 1);
        Check.same("knots tied", x.count(2), 18);
        Check.same("loops tied", x.count(3), 1);
        x.undo();
        Check.same("knots tied before", x.count(2), 16);
        Check.same("loops tied before", x.count(3), 0);
        x.slip(0, 0);
        Check.same("slipped", x.count(4), 1);
        x.undo();
        Check.same("slipped before", x.count(4), 0);
        x.renew(1);
        Check.same("gone", x.count(5), 7);
        x.undo();
        Check.same("gone before", x.count(5), 0);
        x.slip(0, 5);
        Check.same("refused", x.count(6), 1);
        x.undo();
        Check.same("refused before", x.count(6), 0);
    }

    private static void saves(String what, Consumer<HerdCords> call) {
        Check.undoable(what, Made::mixed, call);
    }

    private static void notUndoable() {
        Consumer<HerdCords> looks = x -> {
            x.append(48);
            x.firstError();
            x.keep(0);
            x.clearBuffer();
            x.cordOf(0, 0);
            x.placeOf(0, 0, 0);
            x.part(0, 0);
            x.count(0);
            x.byHue(0);
            x.whyNot(0, 1);
            x.howOften(0, 1);
            x.cordsFor(1, 1);
            x.fullest();
            x.closedShare();
            x.digest();
        };
        HerdCords x = Made.tied(5);
        looks.accept(x);
        Check.same("others save nothing", x.count(9), 1);
        HerdCords wrong = new HerdCords();
        Check.isThrown("tie", Check.ARGUMENT, () -> wrong.tie(0, 0));
        Check.isThrown("add", Check.ARGUMENT, () -> wrong.add(0, 0));
        Check.isThrown("slip", Check.INDEX, () -> wrong.slip(0, 6));
        Check.isThrown("mend", Check.INDEX, () -> wrong.mend(7));
        Check.isThrown("renew", Check.INDEX, () -> wrong.renew(7));
        Check.isThrown("dye", Check.ARGUMENT, () -> wrong.dye(0, 6));
        Check.isThrown("set", Check.ARGUMENT, () -> wrong.set(19));
        Check.isThrown("run", Check.ARGUMENT, () -> wrong.run());
        Check.isThrown("goBack", Check.STATE, () -> wrong.goBack(0));
        Check.isThrown("undo", Check.STATE, () -> wrong.undo());
        Check.same("what throws saves nothing", wrong.count(9), 0);
    }

    private static void mostStates() {
        Check.sentence(TERMS, "At most 6 states are saved; the oldest one is dropped first.");
        HerdCords x = new HerdCords();
        for (int time = 1; time <= 6; time++) {
            x.tie(0, 1);
            Check.same("saved", x.count(9), time);
        }
        for (int left = 5; left >= 0; left--) {
            Check.same("left", x.undo(), left);
            Check.same("it tells", x.cordOf(0, 0), left);
        }
        Check.isThrown("none is left", Check.STATE, () -> x.undo());
        Check.same("as a new object", x.digest(), new HerdCords().digest());
    }

    private static void oldestDropped() {
        HerdCords x = Made.partsOf(1, 7);
        Check.same("six of seven", x.count(9), 6);
        for (int left = 5; left >= 0; left--) {
            Check.same("left", x.undo(), left);
            Check.same("it tells", x.cordOf(0, 0), left + 1);
        }
        Check.isThrown("the oldest one is dropped", Check.STATE, () -> x.undo());
        Check.same("it stays at the second oldest", x.cordOf(0, 0), 1);
        HerdCords back = Made.partsOf(1, 6);
        back.keep(0);
        back.goBack(0);
        Check.same("going back drops the oldest one, too", back.count(9), 6);
        HerdCords ran = Made.partsOf(1, 6);
        Check.type(ran, "0+1;0+1;0+1");
        ran.run();
        Check.same("run drops one alone", ran.count(9), 6);
        for (int time = 0; time < 6; time++) {
            ran.undo();
        }
        Check.same("the second oldest", ran.cordOf(0, 0), 1);
        HerdCords refused = Made.partsOf(1, 6);
        refused.slip(0, 5);
        for (int time = 0; time < 6; time++) {
            refused.undo();
        }
        Check.same("a refused call drops one, too", refused.cordOf(0, 0), 1);
    }

    /** Saved and undone by turns, so that dropped, undone and new states come at each place of what holds them. */
    private static void roundAndRound() {
        for (int undone = 0; undone <= 6; undone++) {
            HerdCords x = new HerdCords();
            int[] told = new int[7];
            int saved = 0;
            for (int round = 1; round <= 20; round++) {
                for (int time = 1; time <= 4; time++) {
                    if (saved == 6) {
                        System.arraycopy(told, 1, told, 0, 5);
                        saved = 5;
                    }
                    told[saved] = x.cordOf(6, 6) + 10 * x.cordOf(5, 6);
                    saved++;
                    x.dye(time % 2 == 0 ? 6 : 5, (round + time) % 6);
                }
                for (int time = 0; time < undone && saved > 0 && round % 3 == 0; time++) {
                    saved--;
                    Check.same("left", x.undo(), saved);
                    Check.same("round " + round, x.cordOf(6, 6) + 10 * x.cordOf(5, 6), told[saved]);
                }
                Check.same("saved", x.count(9), saved);
            }
        }
    }

    private static void keep() {
        Check.sentence("Promise 13", "- `slot`: 0 or 1");
        Check.same("slot 0", Made.tied(5).keep(0), 5);
        Check.same("slot 1", Made.tied(5).keep(1), 5);
        HerdCords one = Made.tied(5);
        one.keep(1);
        Check.isThrown("slot 0 is empty yet", Check.STATE, () -> one.goBack(0));
        Check.sentence("Promise 13", NO_SLOT);
        for (int slot : new int[] {Made.MIN, -1, 2, Made.MAX}) {
            Check.refuses("slot " + slot, Made::mixed, Check.ARGUMENT, x -> x.keep(slot));
        }
        Check.sentence("Promise 13", "Returns how many ties there are on all cords.");
        Check.same("none", new HerdCords().keep(0), 0);
        HerdCords x = Made.tied(9, 99, 0, 0, 0, 0, 999999);
        x.tie(1, 1);
        Check.same("knots and loops of all cords", x.keep(0), 9 + 21 + 2 + 54);
        x.slip(6, 5);
        Check.same("less what slipped", x.keep(0), 85);
        Check.same("as count tells", x.count(1), 85);
    }

    private static void keepInPlace() {
        Check.sentence("Promise 13", "Takes a snapshot, in place of the one in the slot.");
        HerdCords x = kept(0);
        x.tie(0, 1000);
        x.keep(0);
        x.renew(0);
        x.goBack(0);
        Check.same("the later one", x.cordOf(0, 0), 1102);
        HerdCords two = kept(0);
        two.tie(0, 1000);
        two.keep(1);
        two.goBack(0);
        Check.same("the other slot stays", two.cordOf(0, 0), 102);
        HerdCords same = kept(0);
        same.tie(0, 1000);
        same.slip(0, 3);
        same.goBack(0);
        Check.same("a snapshot does not go on with the cords", same.cordOf(0, 0), 102);
        Check.changesNothing("the same one again", () -> kept(1), y -> y.keep(1));
        HerdCords first = Made.tied(5);
        first.keep(0);
        Check.same("no saved state by it", first.count(9), 1);
    }

    private static void goBack() {
        Check.sentence("Promise 14", "- `slot`: 0 or 1");
        for (int slot = 0; slot <= 1; slot++) {
            HerdCords x = kept(slot);
            x.renew(0);
            Check.same("slot " + slot, x.goBack(slot), 25);
            Check.same("it tells", x.cordOf(0, 0), 102);
        }
        Check.sentence("Promise 14", NO_SLOT);
        for (int slot : new int[] {Made.MIN, -1, 2, Made.MAX}) {
            Check.refuses("slot " + slot, Made::mixed, Check.ARGUMENT, x -> x.goBack(slot));
            Check.refuses("slot " + slot + " of empty ones", HerdCords::new, Check.ARGUMENT, x -> x.goBack(slot));
        }
        Check.sentence("Promise 14", "Throws `IllegalStateException` if there is no snapshot in it");
        Check.refuses("slot 0", () -> kept(1), Check.STATE, x -> x.goBack(0));
        Check.refuses("slot 1", () -> kept(0), Check.STATE, x -> x.goBack(1));
        Check.sentence("Promise 14", "Returns how many ties there are on all cords then.");
        HerdCords none = new HerdCords();
        none.keep(0);
        none.tie(0, 9);
        Check.same("none", none.goBack(0), 0);
        HerdCords all = Made.tied(9, 0, 0, 0, 0, 0, 9);
        all.keep(1);
        all.renew(0);
        Check.same("of all cords", all.goBack(1), 18);
    }

    private static void goBackStays() {
        Check.sentence("Promise 14", "Goes back to a snapshot, which stays.");
        HerdCords x = kept(0);
        for (int time = 0; time < 3; time++) {
            x.tie(0, 1000);
            x.set(60 + time);
            Check.same("each time", x.goBack(0), 25);
            Check.same("it tells", x.cordOf(0, 0), 102);
            Check.same("the setting", x.count(8), 40);
            Check.same("the parts", x.cordOf(0, 2), 2);
        }
        x.tie(0, 5);
        x.slip(0, 0);
        Check.same("it does not go on with the cords", x.goBack(0), 25);
        Check.sentence("Promise 14", "Undoable.");
        Check.undoable("to another state", () -> renewedBehind(0), y -> y.goBack(0));
        Check.undoable("to the same one", Made::mixed, y -> y.goBack(1));
        HerdCords back = kept(0);
        back.renew(0);
        back.goBack(0);
        back.undo();
        Check.same("undone", back.cordOf(0, 0), 0);
        back.undo();
        Check.same("undone once more", back.cordOf(0, 0), 102);
    }

    private static HerdCords renewedBehind(int slot) {
        HerdCords x = kept(slot);
        x.renew(0);
        return x;
    }

    private static void undo() {
        Check.sentence("Promise 15", "Restores the latest saved state, and drops it.");
        HerdCords x = Made.tied(5, 6);
        x.undo();
        Check.same("the latest", x.cordOf(1, 0), 0);
        Check.same("not the one before", x.cordOf(0, 0), 5);
        x.undo();
        Check.same("then the one before", x.cordOf(0, 0), 0);
        HerdCords again = Made.tied(5);
        again.undo();
        again.tie(0, 7);
        Check.same("saved anew", again.undo(), 0);
        Check.same("undo itself is not undoable", again.cordOf(0, 0), 0);
        Check.sentence("Promise 15", "Returns how many saved states are left.");
        HerdCords most = Made.partsOf(1, 9);
        for (int left = 5; left >= 0; left--) {
            Check.same("of six", most.undo(), left);
            Check.same("as count tells", most.count(9), left);
        }
        Check.sentence("Promise 15", "Throws `IllegalStateException` if there is none");
        Check.refuses("of a new object", HerdCords::new, Check.STATE, y -> y.undo());
        Check.refuses("behind the last", StateEdges::undone, Check.STATE, y -> y.undo());
        Check.refuses("with snapshots alone", () -> keptAlone(), Check.STATE, y -> y.undo());
    }

    private static HerdCords undone() {
        HerdCords x = Made.partsOf(1, 7);
        for (int time = 0; time < 6; time++) {
            x.undo();
        }
        return x;
    }

    private static HerdCords keptAlone() {
        HerdCords x = new HerdCords();
        x.keep(0);
        x.keep(1);
        Check.type(x, "0+5");
        return x;
    }

    private static void undoLeaves() {
        HerdCords x = Made.tied(5);
        x.keep(0);
        x.tie(0, 7);
        Check.type(x, "6~");
        x.undo();
        x.undo();
        Check.same("the buffer", x.firstError(), 2);
        Check.same("the slot", x.goBack(0), 5);
        Check.same("the slot tells", x.cordOf(0, 0), 5);
        HerdCords parts = Made.parts(95, 7);
        parts.renew(0);
        parts.tie(0, 8);
        parts.undo();
        parts.undo();
        Check.same("the first part again", parts.part(0, 0), 95);
        Check.same("the second part again", parts.part(0, 1), 7);
        Check.same("what went is there again", parts.count(5), 0);
        Check.same("knots so far", parts.count(2), 23);
    }
}
