import java.util.function.Consumer;

/** Which exception is thrown for which arguments: for each call, all values at the edges, each with all others. */
final class RangeEdges {
    private static final String TERMS = "Terms";
    private static final int[] VALUES = {Made.MIN, -2, -1, 0, 1, 2, 3, 4, 5, 6, 7, 8, 9, 10, 15, 16, 19, 20, 32, 33, 40, 99,
        100, 126, 127, 255, 999999, 1000000, 9999999, 10000000, 65536 + 48, Made.MAX};
    private static final Class<? extends RuntimeException> NOTHING = null;

    private interface Call {
        void on(HerdCords x, int a, int b);
    }

    private interface Due {
        Class<? extends RuntimeException> of(int a, int b);
    }

    private RangeEdges() {
    }

    static void all() {
        changesNothing();
        firstNamed();
        firstNamedOfThree();
        constants();
        interfaceLines();
        looksChangeNothing();
        wouldBeChangesNothing();
    }

    private static boolean in(int value, int least, int most) {
        return least <= value && value <= most;
    }

    private static Class<? extends RuntimeException> first(boolean index, boolean argument, boolean state) {
        return index ? Check.INDEX : argument ? Check.ARGUMENT : state ? Check.STATE : NOTHING;
    }

    private static void changesNothing() {
        Check.sentence(TERMS, "A call that throws an exception changes nothing (the buffer stays as it is, too).");
        Check.refuses("tie", Made::mixed, Check.ARGUMENT, x -> x.tie(3, 0));
        Check.refuses("add", Made::mixed, Check.ARGUMENT, x -> x.add(3, 3));
        Check.refuses("slip", Made::mixed, Check.INDEX, x -> x.slip(0, 6));
        Check.refuses("mend", Made::mixed, Check.INDEX, x -> x.mend(7));
        Check.refuses("renew", Made::mixed, Check.INDEX, x -> x.renew(7));
        Check.refuses("dye", Made::mixed, Check.ARGUMENT, x -> x.dye(0, 6));
        Check.refuses("set", Made::mixed, Check.ARGUMENT, x -> x.set(100));
        Check.refuses("append", Made::mixed, Check.ARGUMENT, x -> x.append(127));
        Check.refuses("append to a full buffer", RangeEdges::fullBuffer, Check.STATE, x -> x.append(48));
        Check.refuses("run", Made::mixed, Check.ARGUMENT, x -> x.run());
        Check.refuses("keep", Made::mixed, Check.ARGUMENT, x -> x.keep(2));
        Check.refuses("goBack", Made::mixed, Check.ARGUMENT, x -> x.goBack(2));
        Check.refuses("goBack to nothing", RangeEdges::fullBuffer, Check.STATE, x -> x.goBack(0));
        Check.refuses("undo", HerdCords::new, Check.STATE, x -> x.undo());
        HerdCords buffer = Made.mixed();
        Check.isThrown("run", Check.ARGUMENT, () -> buffer.run());
        Check.same("the buffer stays as it is", buffer.clearBuffer(), 5);
    }

    private static HerdCords fullBuffer() {
        HerdCords x = Made.tied(5);
        Check.type(x, "0+5;".repeat(15));
        return x;
    }

    private static void each(String name, Call call, Due due) {
        for (int a : VALUES) {
            for (int b : VALUES) {
                Consumer<HerdCords> called = x -> call.on(x, a, b);
                Class<? extends RuntimeException> first = due.of(a, b);
                if (first != NOTHING) {
                    Check.refuses(name + " of " + a + ", " + b, RangeEdges::small, first, called);
                } else {
                    called.accept(small());
                }
            }
        }
    }

    private static HerdCords small() {
        HerdCords x = Made.tied(5, 17);
        x.keep(1);
        x.append(48);
        return x;
    }

    private static void firstNamed() {
        Check.sentence(TERMS, "If several exceptions apply, the one that is named first in the throws clause is thrown.");
        each("tie", HerdCords::tie, (a, b) -> first(!in(a, 0, 6), !in(b, 1, 999999), false));
        each("add", HerdCords::add, (a, b) -> first(!in(a, 0, 6) || !in(b, 0, 6), a == b, false));
        each("slip", HerdCords::slip, (a, b) -> first(!in(a, 0, 6) || !in(b, 0, 5), false, false));
        each("mend", (x, a, b) -> x.mend(a), (a, b) -> first(!in(a, 0, 6), false, false));
        each("renew", (x, a, b) -> x.renew(a), (a, b) -> first(!in(a, 0, 6), false, false));
        each("dye", HerdCords::dye, (a, b) -> first(!in(a, 0, 6), !in(b, 0, 5), false));
        each("set", (x, a, b) -> x.set(a), (a, b) -> first(false, !in(a, 20, 99), false));
        each("append", (x, a, b) -> x.append(a), (a, b) -> first(false, !in(a, 33, 126), false));
        each("keep", (x, a, b) -> x.keep(a), (a, b) -> first(false, !in(a, 0, 1), false));
        each("goBack", (x, a, b) -> x.goBack(a), (a, b) -> first(false, !in(a, 0, 1), a == 0));
        each("cordOf", HerdCords::cordOf, (a, b) -> first(!in(a, 0, 6), !in(b, 0, 7), false));
        each("part", HerdCords::part, (a, b) -> first(!in(a, 0, 6), b < 0, false));
        each("count", (x, a, b) -> x.count(a), (a, b) -> first(false, !in(a, 0, 9), false));
        each("byHue", (x, a, b) -> x.byHue(a), (a, b) -> first(false, !in(a, 0, 5), false));
        each("whyNot", HerdCords::whyNot, (a, b) -> first(!in(a, 0, 6), !in(b, 1, 999999), false));
        each("howOften", HerdCords::howOften, (a, b) -> first(!in(a, 0, 6), !in(b, 1, 999999), false));
        each("cordsFor", HerdCords::cordsFor, (a, b) -> first(false, !in(a, 1, 9999999) || !in(b, 0, 1), false));
        for (int code : VALUES) {
            Check.refuses("append to a full buffer: " + code, RangeEdges::fullBuffer,
                first(false, !in(code, 33, 126), true), x -> x.append(code));
        }
    }

    private static void firstNamedOfThree() {
        for (int what : VALUES) {
            each("placeOf with " + what, (x, a, b) -> x.placeOf(a, b, what),
                (a, b) -> first(!in(a, 0, 6) || !in(b, 0, 5), !in(what, 0, 3), false));
        }
    }

    private static void constants() {
        Check.sentence(TERMS, "The constants: `NONE = -1`: There is nothing to return.");
        Check.same("NONE", HerdCords.NONE, -1);
        Check.same("no part", new HerdCords().part(0, 0), HerdCords.NONE);
        Check.same("no open knot", new HerdCords().slip(0, 0), HerdCords.NONE);
        Check.same("no cords", new HerdCords().cordsFor(1, 0), HerdCords.NONE);
    }

    private static void interfaceLines() {
        Check.sentence(TERMS, "Ahead of the calls `tie`, `add`, `slip`, `mend`, `renew`, `dye`, `set` the interface says: ---- "
            + "tying.");
        HerdCords x = new HerdCords();
        x.tie(0, 3);
        x.add(0, 1);
        x.slip(0, 0);
        x.mend(0);
        x.renew(1);
        x.dye(0, 1);
        Check.same("each can be called behind the other", x.set(20), 40);
        Check.sentence(TERMS, "Ahead of the calls `append`, `clearBuffer`, `firstError`, `run`, `keep`, `goBack`, `undo` the "
            + "interface says: ---- texts, snapshots.");
        x.append(48);
        x.firstError();
        x.clearBuffer();
        Check.type(x, "0>1");
        x.run();
        x.keep(0);
        x.goBack(0);
        Check.same("each can be called behind the other", x.undo(), 5);
    }

    private static void looksChangeNothing() {
        Check.sentence(TERMS, "Ahead of the calls `cordOf`, `placeOf`, `part`, `count`, `byHue` the interface says: ---- looks; "
            + "nothing is changed.");
        for (int what = 0; what <= 9; what++) {
            int look = what;
            unchanged("count " + what, x -> x.count(look));
            unchanged("part " + what, x -> x.part(1, look));
        }
        for (int cord = 0; cord <= 6; cord++) {
            int look = cord;
            unchanged("cordOf " + cord, x -> cordLooks(x, look));
        }
        for (int hue = 0; hue <= 5; hue++) {
            int look = hue;
            unchanged("byHue " + hue, x -> x.byHue(look));
        }
    }

    private static void unchanged(String what, Consumer<HerdCords> call) {
        Check.changesNothing(what, Made::mixed, call);
    }

    private static void cordLooks(HerdCords x, int cord) {
        for (int what = 0; what <= 7; what++) {
            x.cordOf(cord, what);
        }
        for (int at = 0; at < 24; at++) {
            x.placeOf(cord, at / 4, at % 4);
        }
        x.part(cord, 0);
    }

    private static void wouldBeChangesNothing() {
        Check.sentence(TERMS, "Ahead of the calls `whyNot`, `howOften`, `cordsFor`, `fullest`, `closedShare`, `digest` the "
            + "interface says: ---- what would be; nothing is changed.");
        for (int cord = 0; cord <= 6; cord++) {
            int look = cord;
            unchanged("whyNot " + cord, x -> x.whyNot(look, 1));
            unchanged("whyNot, refused " + cord, x -> x.whyNot(look, 999999));
            unchanged("howOften " + cord, x -> x.howOften(look, 1));
            unchanged("howOften, far " + cord, x -> x.howOften(look, 999999));
        }
        unchanged("cordsFor by all sets", x -> x.cordsFor(70, 0));
        unchanged("cordsFor by trying", x -> x.cordsFor(70, 1));
        unchanged("fullest", x -> x.fullest());
        unchanged("closedShare", x -> x.closedShare());
        unchanged("digest", x -> x.digest());
        HerdCords x = Made.mixed();
        long before = x.digest();
        Check.same("the digest again", x.digest(), before);
    }
}
