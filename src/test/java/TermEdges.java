import java.util.function.Supplier;

/** The edges that the document's terms name: cords, ties, slips, the setting. */
final class TermEdges {
    private static final String TERMS = "Terms";
    private static final int[] POWERS = {1, 10, 100, 1000, 10000, 100000};

    private TermEdges() {
    }

    static void all() {
        calls();
        numbers();
        cords();
        loops();
        open();
        tells();
        room();
        roomOfEachPlace();
        parts();
        tiedPlaceByPlace();
        refusedForTheFirst();
        refusedForPlacesTiedAt();
        refusedForParts();
        slips();
        neverMore();
        mendedAsNoPart();
        setting();
        tiesStay();
    }

    private static void calls() {
        Check.sentence("What it is", "An object is used for at most 512 calls after it has been made");
        HerdCords x = new HerdCords();
        for (int call = 1; call <= 511; call++) {
            Check.same("renew as call " + call, x.renew(0), 0);
        }
        Check.same("the 512th call", x.count(9), 6);
    }

    private static void numbers() {
        Check.sentence(TERMS, "All numbers are integers, but for a share; divisions are rounded down.");
        HerdCords x = Made.parts(9, 1);
        Made.tieTimes(x, 0, 9, 2);
        Check.same("two loops by 28 knots", x.placeOf(0, 0, 1), 2);
        Check.same("a share is no integer", (long) (1000 * x.closedShare()), 20 * 1000 / 30);
    }

    private static void cords() {
        Check.sentence(TERMS, "There are 7 cords, numbered from 0, each with a hue, 0 to 5, at first 0, and 6 places, "
            + "numbered from 0: a knot at the place p counts 10 to the power p.");
        HerdCords x = new HerdCords();
        for (int cord = 0; cord < 7; cord++) {
            Check.same("hue of cord " + cord, x.cordOf(cord, 6), 0);
            Check.same("hue 5 for cord " + cord, x.dye(cord, 5), 0);
            Check.same("hue then", x.cordOf(cord, 6), 5);
            for (int place = 0; place < 6; place++) {
                Check.same("a knot at place " + place, x.tie(cord, POWERS[place]), 10);
                Check.same("its knots", x.placeOf(cord, place, 0), 1);
                Check.same("what it counts: cord " + cord + " tells", x.cordOf(cord, 0), 111111 % POWERS[place] + POWERS[place]);
            }
        }
        Check.refuses("no cord -1", () -> Made.tied(1), Check.INDEX, y -> y.tie(-1, 1));
        Check.refuses("no cord 7", () -> Made.tied(1), Check.INDEX, y -> y.tie(7, 1));
        Check.refuses("no place -1", () -> Made.tied(1), Check.INDEX, y -> y.slip(0, -1));
        Check.refuses("no place 6", () -> Made.tied(1), Check.INDEX, y -> y.slip(0, 6));
        Check.refuses("no hue -1", () -> Made.tied(1), Check.ARGUMENT, y -> y.dye(0, -1));
        Check.refuses("no hue 6", () -> Made.tied(1), Check.ARGUMENT, y -> y.dye(0, 6));
    }

    private static void loops() {
        Check.sentence(TERMS, "At a place there are knots, and loops, at first none of both; each loop closes ten knots of "
            + "its place, which count no longer.");
        HerdCords fresh = new HerdCords();
        for (int cord = 0; cord < 7; cord++) {
            for (int place = 0; place < 6; place++) {
                Check.same("knots at first", fresh.placeOf(cord, place, 0), 0);
                Check.same("loops at first", fresh.placeOf(cord, place, 1), 0);
            }
        }
        HerdCords nine = Made.parts(9);
        Check.same("nine knots are not closed", nine.placeOf(0, 0, 1), 0);
        nine.tie(0, 1);
        Check.same("ten knots are there yet", nine.placeOf(0, 0, 0), 10);
        Check.same("ten knots are closed", nine.placeOf(0, 0, 1), 1);
        Check.same("closed knots count no longer", nine.cordOf(0, 0), 10);
        nine.slip(0, 1);
        Check.same("without the knot carried nothing counts", nine.cordOf(0, 0), 0);
    }

    private static void open() {
        Check.sentence(TERMS, "So the open knots of a place are its knots less 10 times its loops.");
        HerdCords x = new HerdCords();
        for (int knots = 1; knots <= 16; knots++) {
            x.tie(0, 1);
            Check.same("open of " + knots, x.placeOf(0, 0, 2), knots == 10 ? 0 : knots % 10);
        }
        HerdCords two = Made.parts(9, 9, 2);
        Check.same("open of 20 knots", two.placeOf(0, 0, 2), 0);
        Check.same("knots", two.placeOf(0, 0, 0), 20);
        Check.same("loops", two.placeOf(0, 0, 1), 2);
    }

    private static void tells() {
        Check.sentence(TERMS, "A cord tells the sum of what its open knots count.");
        Check.same("no knots", new HerdCords().cordOf(0, 0), 0);
        Check.same("one knot", Made.parts(1).cordOf(0, 0), 1);
        Check.same("all places with nine", Made.parts(999999).cordOf(0, 0), 999999);
        Check.same("closed ones at five places", Made.parts(99999, 1).cordOf(0, 0), 100000);
        HerdCords x = Made.parts(999999);
        x.slip(0, 5);
        Check.same("a knot of the place 5 less", x.cordOf(0, 0), 899999);
        x.slip(0, 0);
        Check.same("a knot of the place 0 less", x.cordOf(0, 0), 899998);
    }

    private static void room() {
        Check.sentence(TERMS, "Knots and loops together are the ties of a place; at each place is room for as many ties as "
            + "setting 0 tells.");
        HerdCords x = Made.roomForOne();
        Check.same("18 knots", x.placeOf(0, 0, 0), 18);
        Check.same("and a loop", x.placeOf(0, 0, 1), 1);
        Check.same("are 19 ties of 20", x.placeOf(0, 0, 3), 1);
        Check.same("the 20th tie", x.tie(0, 1), 10);
        Check.same("no 21st tie", x.tie(0, 1), 2);
        HerdCords loop = Made.full();
        loop.set(21);
        Check.same("room for a knot, not for its loop", loop.tie(0, 1), 2);
        loop.set(22);
        Check.same("room for both", loop.tie(0, 1), 11);
        Check.same("full again", loop.placeOf(0, 0, 3), 0);
        HerdCords most = new HerdCords();
        most.set(99);
        Made.tieTimes(most, 0, 9, 10);
        Check.same("99 ties", most.cordOf(0, 4), 99 + 9);
        Check.same("the 99th was tied", most.placeOf(0, 0, 3), 0);
        Check.same("no 100th tie", most.tie(0, 1), 2);
        HerdCords first = Made.partsOf(9, 4);
        Check.same("39 ties of the first room", first.placeOf(0, 0, 3), 1);
        Check.same("no 40th and 41st", first.whyNot(0, 5), 2);
        Check.same("the 40th", first.whyNot(0, 1), 0);
    }

    private static void roomOfEachPlace() {
        for (int place = 0; place < 5; place++) {
            HerdCords x = new HerdCords();
            x.set(20);
            Made.tieTimes(x, 6, 9 * POWERS[place], 2);
            Check.same("room for one at place " + place, x.tie(6, POWERS[place]), 10);
            Check.same("none at place " + place, x.tie(6, POWERS[place]), 2);
            Check.same("room at the next place", x.tie(6, POWERS[place + 1]), 10);
            Check.same("other cords have room", x.tie(5, POWERS[place]), 10);
        }
    }

    private static void parts() {
        Check.sentence(TERMS, "A cord has parts, at most 16, in the order in which they were tied; each is a number.");
        HerdCords x = new HerdCords();
        for (int number = 1; number <= 16; number++) {
            Check.same("not yet", x.part(0, number - 1), Made.NONE);
            Check.same("part " + number, x.tie(0, POWERS[number % 5]), 10);
            Check.same("so many", x.cordOf(0, 2), number);
        }
        for (int rank = 0; rank < 16; rank++) {
            Check.same("in their order " + rank, x.part(0, rank), POWERS[(rank + 1) % 5]);
        }
        Check.same("no 17th", x.tie(0, 1), 3);
        Check.same("16 yet", x.cordOf(0, 2), 16);
        Check.same("NONE behind them", x.part(0, 16), Made.NONE);
        HerdCords edges = Made.parts(999998, 1);
        Check.same("a large part", edges.part(0, 0), 999998);
        Check.same("the least part", edges.part(0, 1), 1);
    }

    private static void tiedPlaceByPlace() {
        Check.sentence(TERMS, "To tie a number onto a cord is done place by place, from the place 0 on: as many knots as the "
            + "digit of the number tells are tied there; and then, as long as ten or more knots are open there, a loop closes "
            + "ten of them, and one knot is tied at the next place.");
        HerdCords x = Made.parts(123456);
        for (int place = 0; place < 6; place++) {
            Check.same("digit at place " + place, x.placeOf(0, place, 0), 6 - place);
        }
        Check.same("nine are not closed", Made.parts(4).tie(0, 5), 10);
        Check.same("ten are", Made.parts(4).tie(0, 6), 11);
        Check.same("eighteen are once", Made.parts(9).tie(0, 9), 11);
        HerdCords carried = Made.parts(99);
        Check.same("nineteen are once", carried.tie(0, 99), 12);
        Check.same("nine of them are open", carried.placeOf(0, 1, 2), 9);
        Check.same("19 knots", carried.placeOf(0, 1, 0), 19);
        Check.same("one knot at the next place", carried.placeOf(0, 2, 0), 1);
        HerdCords far = Made.parts(99999);
        Check.same("a knot is carried through all places", far.tie(0, 1), 15);
        for (int place = 0; place < 5; place++) {
            Check.same("ten knots at place " + place, far.placeOf(0, place, 0), 10);
            Check.same("and a loop", far.placeOf(0, place, 1), 1);
        }
        Check.same("one at the last place", far.placeOf(0, 5, 0), 1);
        Check.same("no loop at the last place", far.placeOf(0, 5, 1), 0);
        Check.same("eight and the one carried at the last place", Made.parts(899999).tie(0, 1), 15);
    }

    private static void refusedForTheFirst() {
        Check.sentence(TERMS, "It is refused for the first of these reasons that is so, and nothing is tied then: 1: the cord "
            + "tells more than 999999 then; 2: at a place at which a knot or a loop is tied there would be more ties than "
            + "there is room for.");
        Check.same("999999 may be told", Made.parts(1).tie(0, 999998), 10);
        Check.same("1000000 may not", Made.parts(1).tie(0, 999999), 1);
        Check.same("nor by a knot carried", Made.parts(999999).tie(0, 1), 1);
        HerdCords slipped = Made.parts(999999);
        slipped.slip(0, 0);
        Check.same("by what it tells, not by its parts", slipped.tie(0, 1), 10);
        HerdCords both = Made.full();
        Check.same("of both the first", both.tie(0, 999999), 1);
        Check.same("of both the first, by one too much", both.tie(0, 999981), 1);
        Check.same("the second alone", both.tie(0, 1), 2);
        Check.same("none of both", both.tie(0, 999980), 10);
        nothingTied("tells too much", () -> Made.tied(999999), 0, 123456);
        nothingTied("no room", Made::full, 0, 123456);
        nothingTied("no room for what is carried", TermEdges::fullTens, 0, 100011);
        nothingTied("16 parts", Made::sixteenParts, 0, 123456);
    }

    /** With room 20: the place 1 is full, and the place 0 has nine open knots. */
    private static HerdCords fullTens() {
        HerdCords x = new HerdCords();
        x.set(20);
        Made.tieTimes(x, 0, 90, 2);
        x.tie(0, 19);
        return Made.settled(x);
    }

    /** But for the refusal, which is counted, and the saved state. */
    private static void nothingTied(String what, Supplier<HerdCords> made, int cord, int number) {
        HerdCords x = made.get();
        HerdCords before = made.get();
        int refused = before.count(6);
        Check.same(what + " is refused", x.tie(cord, number) <= 3 ? 1 : 0, 1);
        for (int look = 0; look <= 8; look++) {
            Check.same(what + ": count " + look, x.count(look), look == 6 ? refused + 1 : before.count(look));
        }
        for (int look = 0; look <= 7; look++) {
            Check.same(what + ": cordOf " + look, x.cordOf(cord, look), before.cordOf(cord, look));
        }
        for (int place = 0; place < 6; place++) {
            Check.same(what + ": knots", x.placeOf(cord, place, 0), before.placeOf(cord, place, 0));
            Check.same(what + ": loops", x.placeOf(cord, place, 1), before.placeOf(cord, place, 1));
        }
        for (int rank = 0; rank <= 16; rank++) {
            Check.same(what + ": part " + rank, x.part(cord, rank), before.part(cord, rank));
        }
    }

    private static void refusedForPlacesTiedAt() {
        HerdCords x = Made.full();
        Check.same("a full place at which nothing is tied", x.tie(0, 10), 10);
        Check.same("nor by a zero among others", x.tie(0, 101010), 10);
        Check.same("but by a knot", x.tie(0, 1), 2);
        HerdCords tens = fullTens();
        Check.same("full: place 1", tens.placeOf(0, 1, 3), 0);
        Check.same("a knot that is carried to it", tens.tie(0, 1), 2);
        Check.same("a knot that is tied at it", tens.tie(0, 10), 2);
        Check.same("places around it", tens.tie(0, 100), 10);
    }

    private static void refusedForParts() {
        Check.sentence(TERMS, "A number that is tied as a part is refused, too, ahead of these, for the reason 3: the cord has "
            + "16 parts.");
        Check.same("15 parts are no reason", Made.partsOf(10, 15).tie(0, 10), 10);
        Check.same("16 parts are", Made.partsOf(10, 16).tie(0, 10), 3);
        HerdCords told = Made.partsOf(1, 15);
        told.tie(0, 999984);
        Check.same("tells 999999", told.cordOf(0, 0), 999999);
        Check.same("ahead of the reason 1", told.tie(0, 1), 3);
        HerdCords ties = Made.partsOf(1, 16);
        ties.set(20);
        Check.same("17 of 20 ties", ties.placeOf(0, 0, 3), 3);
        Check.same("ahead of the reason 2", ties.tie(0, 9), 3);
        Check.same("ahead of both", ties.tie(0, 999999), 3);
        Check.same("15 parts: for the reason 2", nearlySixteen().tie(0, 9), 2);
        Check.same("15 parts: for the reason 1", nearlySixteen().tie(0, 999999), 1);
    }

    private static HerdCords nearlySixteen() {
        HerdCords x = Made.partsOf(1, 15);
        x.set(20);
        return x;
    }

    private static void slips() {
        Check.sentence(TERMS, "An open knot of a place can slip: the knots of the place are one less.");
        HerdCords x = Made.parts(9, 2);
        Check.same("the only open one slips", x.slip(0, 0), 0);
        Check.same("ten knots", x.placeOf(0, 0, 0), 10);
        Check.same("its loop stays", x.placeOf(0, 0, 1), 1);
        Check.same("a closed one does not slip", x.slip(0, 0), Made.NONE);
        Check.same("ten knots yet", x.placeOf(0, 0, 0), 10);
        Check.same("other places stay", x.placeOf(0, 1, 0), 1);
        Check.same("a place without knots", x.slip(0, 5), Made.NONE);
        HerdCords room = Made.full();
        room.slip(0, 0);
        Check.same("there is room for it again", room.tie(0, 1), 10);
    }

    private static void neverMore() {
        Check.sentence(TERMS, "(So a cord can tell less than its parts, together; never more.)");
        HerdCords x = Made.parts(5, 6);
        Check.same("as much", x.cordOf(0, 3), 0);
        x.slip(0, 1);
        Check.same("less", x.cordOf(0, 3), 10);
        Check.same("mended", x.mend(0), 10);
        Check.same("mended once", x.mend(0), 0);
        Check.same("never more", x.cordOf(0, 3), 0);
    }

    private static void mendedAsNoPart() {
        Check.sentence(TERMS, "To mend a cord is to tie what it lacks, as no part.");
        HerdCords x = Made.sixteenParts();
        x.slip(0, 0);
        Check.same("16 parts are no reason", x.mend(0), 1);
        Check.same("16 parts yet", x.cordOf(0, 2), 16);
        Check.same("the last part", x.part(0, 15), 1);
        HerdCords loops = Made.parts(9);
        loops.slip(0, 0);
        loops.tie(0, 1);
        Check.same("by knots and loops", loops.mend(0), 1);
        Check.same("a loop", loops.placeOf(0, 0, 1), 1);
        Check.same("two parts", loops.cordOf(0, 2), 2);
    }

    private static void setting() {
        Check.sentence(TERMS, "0: the room of a place, 20 to 99, at first 40.");
        HerdCords x = new HerdCords();
        Check.same("at first", x.count(8), 40);
        Check.refuses("19", HerdCords::new, Check.ARGUMENT, y -> y.set(19));
        Check.same("20", x.set(20), 40);
        Check.same("it is so", x.count(8), 20);
        Check.same("99", x.set(99), 20);
        Check.same("it is so", x.count(8), 99);
        Check.refuses("100", HerdCords::new, Check.ARGUMENT, y -> y.set(100));
        Check.same("room of a place", x.placeOf(6, 5, 3), 99);
    }

    private static void tiesStay() {
        Check.sentence(TERMS, "(Ties that are there stay, if there is less room.)");
        HerdCords x = Made.partsOf(9, 3);
        x.set(30);
        Check.same("as much room as ties", x.placeOf(0, 0, 3), 1);
        x.set(20);
        Check.same("27 knots stay", x.placeOf(0, 0, 0), 27);
        Check.same("two loops stay", x.placeOf(0, 0, 1), 2);
        Check.same("it tells as much", x.cordOf(0, 0), 27);
        Check.same("none can be tied there", x.tie(0, 1), 2);
        Check.same("but elsewhere", x.tie(0, 20), 10);
        Made.slipTimes(x, 0, 0, 7);
        Check.same("22 ties are too many yet", x.tie(0, 1), 2);
        x.set(40);
        Check.same("room again", x.tie(0, 1), 10);
    }
}
