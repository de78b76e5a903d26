/** The edges that the promises 16 to 20 name. */
final class LookEdges {
    private static final String NO_CORD = "Throws `IndexOutOfBoundsException` if there is no such cord";

    private LookEdges() {
    }

    static void all() {
        cordOf();
        cordOfNumbers();
        cordOfMost();
        placeOf();
        placeOfNumbers();
        part();
        partRanks();
        count();
        countSoFar();
        countRefused();
        countNow();
        byHue();
    }

    /** Cord 6 has the parts 95, 7 and 940, together 1042; two knots slipped from it, so that it tells 32. */
    private static HerdCords last() {
        HerdCords x = new HerdCords();
        x.dye(6, 5);
        x.tie(6, 95);
        x.tie(6, 7);
        x.tie(6, 940);
        x.slip(6, 3);
        x.slip(6, 1);
        return x;
    }

    private static void cordOf() {
        Check.sentence("Promise 16", "Returns something of a cord.");
        Check.sentence("Promise 16", "- `cord`: 0 to 6");
        for (int cord = 0; cord <= 6; cord++) {
            HerdCords x = new HerdCords();
            x.tie(cord, 7);
            for (int other = 0; other <= 6; other++) {
                Check.same("cord " + other, x.cordOf(other, 0), other == cord ? 7 : 0);
            }
        }
        Check.sentence("Promise 16", NO_CORD);
        for (int cord : new int[] {Made.MIN, -1, 7, Made.MAX}) {
            Check.refuses("cord " + cord, Made::mixed, Check.INDEX, x -> x.cordOf(cord, 0));
            Check.refuses("cord and what", Made::mixed, Check.INDEX, x -> x.cordOf(cord, 8));
        }
        Check.sentence("Promise 16", "Throws `IllegalArgumentException` if what is not 0 to 7");
        for (int what : new int[] {Made.MIN, -1, 8, 9, Made.MAX}) {
            Check.refuses("what " + what, Made::mixed, Check.ARGUMENT, x -> x.cordOf(0, what));
        }
    }

    private static void cordOfNumbers() {
        Check.sentence("Promise 16", "- `what`: 0: what it tells, by its open knots; 1: its parts, together; 2: how many parts "
            + "it has; 3: what it lacks: (1) less (0); 4: its ties; 5: its loops; 6: its hue; 7: knots that slipped from it so "
            + "far");
        Check.sentence("Promise 16", "Returns the number.");
        int[] due = {32, 1042, 3, 1010, 38, 3, 5, 2};
        HerdCords x = last();
        for (int what = 0; what <= 7; what++) {
            Check.same("cordOf 6 " + what, x.cordOf(6, what), due[what]);
            Check.same("cordOf 0 " + what, x.cordOf(0, what), 0);
        }
        x.slip(6, 4);
        Check.same("what is refused does not slip", x.cordOf(6, 7), 2);
        x.mend(6);
        int[] mended = {1042, 1042, 3, 0, 40, 3, 5, 2};
        for (int what = 0; what <= 7; what++) {
            Check.same("mended: cordOf 6 " + what, x.cordOf(6, what), mended[what]);
        }
        x.slip(6, 0);
        Check.same("a knot beside the mended ones", x.cordOf(6, 7), 3);
        x.renew(6);
        Check.same("none slipped from a new cord", x.cordOf(6, 7), 0);
    }

    private static void cordOfMost() {
        HerdCords x = Made.tied(999999);
        Check.same("the most that it tells", x.cordOf(0, 0), 999999);
        Made.slipAll(x, 0);
        Check.same("nothing", x.cordOf(0, 0), 0);
        Check.same("its part stays", x.cordOf(0, 1), 999999);
        Check.same("it lacks all", x.cordOf(0, 3), 999999);
        Check.same("no ties", x.cordOf(0, 4), 0);
        Check.same("all slipped", x.cordOf(0, 7), 54);
        HerdCords far = new HerdCords();
        for (int time = 0; time < 16; time++) {
            far.tie(6, 900000);
            Made.slipTimes(far, 6, 5, 9);
        }
        Check.same("parts together beyond any number", far.cordOf(6, 1), 14400000);
        Check.same("16 parts", far.cordOf(6, 2), 16);
        Check.same("all is lacking", far.cordOf(6, 3), 14400000);
        Check.same("144 slipped", far.cordOf(6, 7), 144);
    }

    private static void placeOf() {
        Check.sentence("Promise 17", "Returns something of a place.");
        Check.sentence("Promise 17", "- `cord`: 0 to 6");
        Check.sentence("Promise 17", "- `place`: 0 to 5");
        for (int cord = 0; cord <= 6; cord++) {
            HerdCords x = new HerdCords();
            x.tie(cord, 654321);
            for (int place = 0; place <= 5; place++) {
                Check.same("cord " + cord + ", place " + place, x.placeOf(cord, place, 0), place + 1);
                Check.same("another cord", x.placeOf((cord + 1) % 7, place, 0), 0);
            }
        }
        Check.sentence("Promise 17", "Throws `IndexOutOfBoundsException` if there is no such cord or place");
        for (int cord : new int[] {Made.MIN, -1, 7, Made.MAX}) {
            Check.refuses("cord " + cord, Made::mixed, Check.INDEX, x -> x.placeOf(cord, 0, 0));
            Check.refuses("all three", Made::mixed, Check.INDEX, x -> x.placeOf(cord, 6, 4));
        }
        for (int place : new int[] {Made.MIN, -1, 6, Made.MAX}) {
            Check.refuses("place " + place, Made::mixed, Check.INDEX, x -> x.placeOf(0, place, 0));
            Check.refuses("place and what", Made::mixed, Check.INDEX, x -> x.placeOf(0, place, -1));
        }
        Check.sentence("Promise 17", "Throws `IllegalArgumentException` if what is not 0 to 3");
        for (int what : new int[] {Made.MIN, -1, 4, Made.MAX}) {
            Check.refuses("what " + what, Made::mixed, Check.ARGUMENT, x -> x.placeOf(0, 0, what));
        }
    }

    private static void placeOfNumbers() {
        Check.sentence("Promise 17", "- `what`: 0: its knots; 1: its loops; 2: its open knots; 3: ties for which there is room "
            + "yet, 0 if there are more than there is room for");
        Check.sentence("Promise 17", "Returns the number.");
        int[][] due = {{12, 1, 2, 27}, {13, 1, 3, 26}, {10, 1, 0, 29}, {0, 0, 0, 40}, {0, 0, 0, 40}, {0, 0, 0, 40}};
        HerdCords x = last();
        for (int place = 0; place <= 5; place++) {
            for (int what = 0; what <= 3; what++) {
                Check.same("place " + place + ", what " + what, x.placeOf(6, place, what), due[place][what]);
            }
        }
        Check.same("room for one", Made.roomForOne().placeOf(0, 0, 3), 1);
        Check.same("room for none", Made.full().placeOf(0, 0, 3), 0);
        HerdCords more = Made.partsOf(9, 3);
        Check.same("29 ties of 40", more.placeOf(0, 0, 3), 11);
        more.set(30);
        Check.same("29 ties of 30", more.placeOf(0, 0, 3), 1);
        more.set(29);
        Check.same("29 ties of 29", more.placeOf(0, 0, 3), 0);
        more.set(28);
        Check.same("29 ties of 28", more.placeOf(0, 0, 3), 0);
        more.set(20);
        Check.same("29 ties of 20", more.placeOf(0, 0, 3), 0);
        Check.same("room of an empty place", more.placeOf(6, 5, 3), 20);
        more.slip(0, 0);
        more.set(29);
        Check.same("room by what slipped", more.placeOf(0, 0, 3), 1);
    }

    private static void part() {
        Check.sentence("Promise 18", "Returns a part of a cord.");
        Check.sentence("Promise 18", "- `cord`: 0 to 6");
        for (int cord = 0; cord <= 6; cord++) {
            HerdCords x = new HerdCords();
            x.tie(cord, 5);
            Check.same("cord " + cord, x.part(cord, 0), 5);
            Check.same("another cord", x.part((cord + 1) % 7, 0), Made.NONE);
        }
        Check.sentence("Promise 18", NO_CORD);
        for (int cord : new int[] {Made.MIN, -1, 7, Made.MAX}) {
            Check.refuses("cord " + cord, Made::mixed, Check.INDEX, x -> x.part(cord, 0));
            Check.refuses("cord and rank", Made::mixed, Check.INDEX, x -> x.part(cord, -1));
        }
        Check.sentence("Promise 18", "Throws `IllegalArgumentException` if rank is below 0");
        Check.refuses("rank -1", Made::mixed, Check.ARGUMENT, x -> x.part(1, -1));
        Check.refuses("of a cord without parts", Made::mixed, Check.ARGUMENT, x -> x.part(6, -1));
        Check.refuses("rank far below", Made::mixed, Check.ARGUMENT, x -> x.part(1, Made.MIN));
    }

    private static void partRanks() {
        Check.sentence("Promise 18", "- `rank`: from 0");
        Check.sentence("Promise 18", "Returns the number; NONE if it has not so many parts.");
        Check.same("no parts", new HerdCords().part(0, 0), Made.NONE);
        HerdCords x = last();
        Check.same("the first of three", x.part(6, 0), 95);
        Check.same("the last of three", x.part(6, 2), 940);
        Check.same("no fourth", x.part(6, 3), Made.NONE);
        Check.same("the 16th", Made.sixteenParts().part(0, 15), 1);
        Check.same("no 17th", Made.sixteenParts().part(0, 16), Made.NONE);
        Check.same("the farthest", Made.sixteenParts().part(0, Made.MAX), Made.NONE);
        x.mend(6);
        Check.same("what is mended is no part", x.part(6, 3), Made.NONE);
        x.tie(6, 999999);
        Check.same("nor what is refused", x.part(6, 3), Made.NONE);
        x.renew(6);
        Check.same("none of a new cord", x.part(6, 0), Made.NONE);
        x.tie(6, 8);
        Check.same("the first of the new one", x.part(6, 0), 8);
        Check.same("none of the old one behind it", x.part(6, 1), Made.NONE);
        HerdCords undone = Made.parts(95, 7);
        undone.undo();
        Check.same("none that is undone", undone.part(0, 1), Made.NONE);
    }

    private static void count() {
        Check.sentence("Promise 19", "Returns a number.");
        Check.sentence("Promise 19", "- `what`: 0: what all cords tell, together; 1: ties on all cords; 2: knots tied so far; 3: "
            + "loops tied so far; 4: knots that slipped so far; 5: knots and loops that went with old cords so far; 6: what was "
            + "refused so far; 7: cords that lack something; 8: the setting; 9: saved states");
        Check.sentence("Promise 19", "Returns the number.");
        HerdCords x = last();
        int[] due = {32, 38, 37, 3, 2, 0, 0, 1, 40, 6};
        for (int what = 0; what <= 9; what++) {
            Check.same("count " + what, x.count(what), due[what]);
        }
        Check.sentence("Promise 19", "Throws `IllegalArgumentException` if what is not 0 to 9");
        for (int what : new int[] {Made.MIN, -1, 10, Made.MAX}) {
            Check.refuses("what " + what, Made::mixed, Check.ARGUMENT, y -> y.count(what));
        }
    }

    private static void countSoFar() {
        HerdCords x = Made.tied(99);
        x.tie(0, 1);
        Check.same("knots carried are tied, too", x.count(2), 18 + 3);
        Check.same("loops", x.count(3), 2);
        x.slip(0, 2);
        x.slip(0, 2);
        Check.same("what slipped was tied", x.count(2), 21);
        Check.same("slipped", x.count(4), 1);
        Check.same("refused", x.count(6), 1);
        x.mend(0);
        Check.same("what is mended is tied, too", x.count(2), 22);
        x.renew(0);
        Check.same("what went was tied", x.count(2), 22);
        Check.same("loops that went were tied", x.count(3), 2);
        Check.same("went: what was there then", x.count(5), 23);
        Check.same("no ties then", x.count(1), 0);
        x.tie(1, 999999);
        x.renew(1);
        Check.same("went in all", x.count(5), 77);
    }

    private static void countRefused() {
        HerdCords x = Made.tied(999999, 1);
        Check.same("tie", x.tie(0, 1), 1);
        Check.same("1", x.count(6), 1);
        Check.same("add", x.add(1, 0), 1);
        Check.same("2", x.count(6), 2);
        Check.same("slip", x.slip(2, 0), Made.NONE);
        Check.same("3", x.count(6), 3);
        Check.type(x, "2~0");
        Check.same("run", x.run(), 0);
        Check.same("4", x.count(6), 4);
        x.slip(0, 0);
        x.tie(0, 1);
        Check.same("mend", x.mend(0), -1);
        Check.same("5", x.count(6), 5);
        Check.same("what would be", x.whyNot(0, 999999), 1);
        Check.same("how often it would be", x.howOften(0, 999999), 0);
        Check.same("adding nothing", x.add(2, 0), 0);
        Check.same("mending nothing", x.mend(1), 0);
        Check.isThrown("what throws", Check.ARGUMENT, () -> x.tie(0, 0));
        Check.same("5 yet", x.count(6), 5);
        x.undo();
        x.undo();
        x.undo();
        Check.same("undone, mend was not refused", x.count(6), 4);
    }

    private static void countNow() {
        HerdCords all = Made.tied(999999, 999999, 999999, 999999, 999999, 999999, 999999);
        Check.same("the most that all tell", all.count(0), 6999993);
        Check.same("their ties", all.count(1), 7 * 54);
        for (int cord = 0; cord < 7; cord++) {
            Check.same("cords that lack", all.count(7), cord);
            all.slip(cord, 5);
            all.slip(cord, 5);
        }
        Check.same("all seven lack", all.count(7), 7);
        all.mend(3);
        Check.same("but the mended one", all.count(7), 6);
        all.renew(6);
        Check.same("a new one lacks nothing", all.count(7), 5);
        all.set(20);
        Check.same("the least setting", all.count(8), 20);
        all.set(99);
        Check.same("the largest setting", all.count(8), 99);
        Check.same("saved states", all.count(9), 6);
    }

    private static void byHue() {
        Check.sentence("Promise 20", "Returns what the cords of a hue tell.");
        Check.sentence("Promise 20", "- `hue`: 0 to 5");
        Check.sentence("Promise 20", "Returns the sum.");
        HerdCords x = Made.tied(1, 2, 4, 8, 16, 32, 64);
        Check.same("all of hue 0", x.byHue(0), 127);
        for (int hue = 1; hue <= 5; hue++) {
            Check.same("none of hue " + hue, x.byHue(hue), 0);
            x.dye(hue, hue);
            Check.same("one of hue " + hue, x.byHue(hue), 1 << hue);
        }
        Check.same("two of hue 0", x.byHue(0), 65);
        x.slip(6, 0);
        Check.same("what they tell, not their parts", x.byHue(0), 64);
        x.dye(0, 5);
        x.dye(6, 5);
        Check.same("none of hue 0", x.byHue(0), 0);
        Check.same("three of hue 5", x.byHue(5), 96);
        HerdCords most = Made.tied(999999, 999999, 999999, 999999, 999999, 999999, 999999);
        Check.same("the most", most.byHue(0), 6999993);
        Check.sentence("Promise 20", "Throws `IllegalArgumentException` if hue is out of range");
        for (int hue : new int[] {Made.MIN, -1, 6, Made.MAX}) {
            Check.refuses("hue " + hue, Made::mixed, Check.ARGUMENT, y -> y.byHue(hue));
        }
    }
}
