import java.math.BigInteger;
import java.util.ArrayList;
import java.util.List;

/** The edges that the promises 21 to 26 name. */
final class WouldBeEdges {
    private static final String NO_CORD = "Throws `IndexOutOfBoundsException` if there is no such cord";
    private static final String NO_NUMBER = "Throws `IllegalArgumentException` if number is out of range";
    private static final int[] NO_CORDS = {Made.MIN, -1, 7, Made.MAX};
    private static final int[] NO_NUMBERS = {Made.MIN, -1, 0, 1000000, Made.MAX};

    private WouldBeEdges() {
    }

    static void all() {
        whyNot();
        whyNotRange();
        howOften();
        howOftenRange();
        cordsFor();
        cordsForFewest();
        cordsForRange();
        fullest();
        closedShare();
        digest();
        digestOverflow();
        digestTellsAll();
    }

    private static void whyNot() {
        Check.sentence("Promise 21", "Tells why a number cannot be tied onto a cord.");
        Check.sentence("Promise 21", "Returns the reason for which tie() would be refused; 0 if it would not.");
        Check.same("a new cord", new HerdCords().whyNot(0, 999999), 0);
        Check.same("up to 999999", Made.tied(1).whyNot(0, 999998), 0);
        Check.same("beyond 999999", Made.tied(1).whyNot(0, 999999), 1);
        Check.same("up to the room", Made.roomForOne().whyNot(0, 1), 0);
        Check.same("beyond the room", Made.roomForOne().whyNot(0, 2), 2);
        Check.same("a full place", Made.full().whyNot(0, 1), 2);
        Check.same("another place", Made.full().whyNot(0, 10), 0);
        Check.same("15 parts", Made.partsOf(1, 15).whyNot(0, 1), 0);
        Check.same("16 parts", Made.partsOf(1, 16).whyNot(0, 1), 3);
        Check.same("1 ahead of 2", Made.full().whyNot(0, 999999), 1);
        Check.same("3 ahead of 1", Made.sixteenParts().whyNot(0, 999999), 3);
        HerdCords all = Made.sixteenParts();
        all.set(20);
        Check.same("3 ahead of 2", all.whyNot(0, 9), 3);
        Check.same("3 ahead of all", all.whyNot(0, 999999), 3);
        int[] numbers = {1, 2, 9, 10, 11, 90, 99, 100, 999, 50000, 999980, 999981, 999999};
        for (int cord = 0; cord <= 6; cord++) {
            for (int number : numbers) {
                int reason = Made.mixed().whyNot(cord, number);
                int tied = Made.mixed().tie(cord, number);
                Check.same("as tie: cord " + cord + ", number " + number, reason, tied >= 10 ? 0 : tied);
            }
        }
    }

    private static void whyNotRange() {
        Check.sentence("Promise 21", "- `cord`: 0 to 6");
        Check.sentence("Promise 21", "- `number`: 1 to 999999");
        for (int cord = 0; cord <= 6; cord++) {
            HerdCords x = new HerdCords();
            x.tie(cord, 999999);
            Check.same("cord " + cord, x.whyNot(cord, 1), 1);
            Check.same("another one", x.whyNot((cord + 1) % 7, 999999), 0);
        }
        Check.sentence("Promise 21", NO_CORD);
        for (int cord : NO_CORDS) {
            Check.refuses("cord " + cord, Made::mixed, Check.INDEX, x -> x.whyNot(cord, 1));
            Check.refuses("cord and number", Made::mixed, Check.INDEX, x -> x.whyNot(cord, 0));
        }
        Check.sentence("Promise 21", NO_NUMBER);
        for (int number : NO_NUMBERS) {
            Check.refuses("number " + number, Made::mixed, Check.ARGUMENT, x -> x.whyNot(6, number));
            Check.refuses("of 16 parts: " + number, Made::mixed, Check.ARGUMENT, x -> x.whyNot(1, number));
        }
    }

    private static void howOften() {
        Check.sentence("Promise 22", "Tells how often a number could be tied onto a cord, one time after the other.");
        Check.sentence("Promise 22", "Returns how often, up to the first time that is refused.");
        Check.same("never: tells 999999", Made.tied(999999).howOften(0, 1), 0);
        Check.same("never: a full place", Made.full().howOften(0, 1), 0);
        Check.same("never: 16 parts", Made.sixteenParts().howOften(0, 1), 0);
        Check.same("once: room for one", Made.roomForOne().howOften(0, 1), 1);
        Check.same("once: 15 parts", Made.partsOf(1, 15).howOften(0, 1), 1);
        Check.same("once: up to 999999", Made.tied(1).howOften(0, 999998), 1);
        Check.same("once: the largest", new HerdCords().howOften(0, 999999), 1);
        Check.same("twice: just up to 999998", new HerdCords().howOften(0, 499999), 2);
        Check.same("three times: just up to 999999", new HerdCords().howOften(0, 333333), 3);
        Check.same("twice: one too much", new HerdCords().howOften(0, 333334), 2);
        Check.same("16 times, the most", new HerdCords().howOften(0, 1), 16);
        Check.same("12 times: 36 knots and 3 loops of 40 ties", new HerdCords().howOften(0, 30), 12);
        int[] numbers = {1, 2, 3, 5, 9, 10, 48, 95, 99, 111, 555, 999, 12345, 62499, 62500, 90909, 166667, 499999, 500000};
        for (int room = 20; room <= 99; room += 79) {
            for (int number : numbers) {
                asTie(room, number);
            }
        }
        Check.changesNothing("it ties nothing", Made::mixed, x -> x.howOften(3, 1));
        Check.changesNothing("nor if it is refused", Made::mixed, x -> x.howOften(0, 1));
        HerdCords twice = Made.tied(95);
        Check.same("the first time", twice.howOften(0, 95), 2);
        Check.same("the second time", twice.howOften(0, 95), 2);
        Check.same("another cord", twice.howOften(1, 95), 3);
    }

    private static void asTie(int room, int number) {
        HerdCords x = new HerdCords();
        x.set(room);
        x.tie(5, 7);
        int times = x.howOften(5, number);
        for (int time = 1; time <= times; time++) {
            Check.same("room " + room + ", number " + number + ", time " + time, x.tie(5, number) >= 10 ? 1 : 0, 1);
            Check.same("then", x.howOften(5, number), times - time);
        }
        Check.same("room " + room + ", number " + number + " is refused then", x.tie(5, number) < 10 ? 1 : 0, 1);
    }

    private static void howOftenRange() {
        Check.sentence("Promise 22", "- `cord`: 0 to 6");
        Check.sentence("Promise 22", "- `number`: 1 to 999999");
        for (int cord = 0; cord <= 6; cord++) {
            HerdCords x = new HerdCords();
            x.tie(cord, 999999);
            Check.same("cord " + cord, x.howOften(cord, 1), 0);
            Check.same("another one", x.howOften((cord + 1) % 7, 999999), 1);
        }
        Check.sentence("Promise 22", NO_CORD);
        for (int cord : NO_CORDS) {
            Check.refuses("cord " + cord, Made::mixed, Check.INDEX, x -> x.howOften(cord, 1));
            Check.refuses("cord and number", Made::mixed, Check.INDEX, x -> x.howOften(cord, 0));
        }
        Check.sentence("Promise 22", NO_NUMBER);
        for (int number : NO_NUMBERS) {
            Check.refuses("number " + number, Made::mixed, Check.ARGUMENT, x -> x.howOften(6, number));
        }
    }

    private static void bothWays(String what, HerdCords x, int sum, int due) {
        Check.same(what + ": " + sum + " by all sets", x.cordsFor(sum, 0), due);
        Check.same(what + ": " + sum + " by trying", x.cordsFor(sum, 1), due);
    }

    private static void cordsFor() {
        Check.sentence("Promise 23", "Finds cords that tell a sum, together.");
        HerdCords x = Made.tied(1, 2, 4, 8, 16, 32, 64);
        for (int sum = 1; sum <= 127; sum++) {
            bothWays("each set", x, sum, sum);
        }
        bothWays("more than all", x, 128, Made.NONE);
        HerdCords slipped = Made.tied(5, 7);
        slipped.slip(0, 0);
        bothWays("what it tells", slipped, 4, 1);
        bothWays("not its parts", slipped, 5, Made.NONE);
        Check.sentence("Promise 23", "- `what`: 0: told by all sets; 1: told by trying, cord after cord");
        HerdCords mixed = Made.tied(17, 250, 33, 50, 200, 83, 67);
        for (int sum = 1; sum <= 701; sum++) {
            int due = fewestThenLeast(new int[] {17, 250, 33, 50, 200, 83, 67}, sum);
            if (due != Made.NONE && sum % 3 == 0) {
                bothWays("the same", mixed, sum, due);
            }
        }
    }

    private static int fewestThenLeast(int[] told, int sum) {
        int best = Made.NONE;
        for (int mask = 127; mask >= 1; mask--) {
            int together = 0;
            for (int cord = 0; cord < 7; cord++) {
                together += (mask & 1 << cord) != 0 ? told[cord] : 0;
            }
            if (together == sum && (best == Made.NONE || Integer.bitCount(mask) <= Integer.bitCount(best))) {
                best = mask;
            }
        }
        return best;
    }

    private static void cordsForFewest() {
        Check.sentence("Promise 23", "Returns the cords, as a mask, of several sets one with the fewest cords, of these the one "
            + "with the least mask (the same for both); NONE if there is none.");
        bothWays("no knots", new HerdCords(), 1, Made.NONE);
        bothWays("one cord alone", Made.tied(0, 0, 0, 0, 0, 0, 9), 9, 64);
        bothWays("of two alike the lower", Made.tied(0, 9, 0, 0, 0, 0, 9), 9, 2);
        bothWays("cords that tell 0 are left out", Made.tied(0, 9, 0, 0, 9, 0, 0), 18, 18);
        bothWays("one rather than two, though its mask is larger", Made.tied(4, 5, 0, 0, 0, 0, 9), 9, 64);
        bothWays("two rather than three", Made.tied(10, 20, 30, 0, 0, 37, 23), 60, 32 + 64);
        bothWays("of two pairs the least mask", Made.tied(1, 2, 8, 9, 0, 0, 0), 10, 6);
        bothWays("the least mask, not the lowest cord", Made.tied(1, 4, 6, 0, 9, 0, 0), 10, 6);
        bothWays("all seven alike", Made.tied(5, 5, 5, 5, 5, 5, 5), 20, 15);
        bothWays("six of seven", Made.tied(5, 5, 5, 5, 5, 5, 5), 30, 63);
        bothWays("seven of seven", Made.tied(5, 5, 5, 5, 5, 5, 5), 35, 127);
        bothWays("none", Made.tied(5, 5, 5, 5, 5, 5, 5), 34, Made.NONE);
        bothWays("the most", Made.tied(999999, 999999, 999999, 999999, 999999, 999999, 999999), 6999993, 127);
        HerdCords gone = Made.tied(5, 5);
        gone.renew(0);
        bothWays("not the one that went", gone, 5, 2);
    }

    private static void cordsForRange() {
        Check.sentence("Promise 23", "- `sum`: 1 to 9999999");
        bothWays("the least", Made.tied(0, 1), 1, 2);
        bothWays("the largest", Made.mixed(), 9999999, Made.NONE);
        bothWays("one less", Made.mixed(), 9999998, Made.NONE);
        Check.sentence("Promise 23", "Throws `IllegalArgumentException` if sum is out of range, or what is not 0 or 1");
        for (int sum : new int[] {Made.MIN, -1, 0, 10000000, Made.MAX}) {
            Check.refuses("sum " + sum, Made::mixed, Check.ARGUMENT, x -> x.cordsFor(sum, 0));
            Check.refuses("by trying: sum " + sum, Made::mixed, Check.ARGUMENT, x -> x.cordsFor(sum, 1));
            Check.refuses("both", Made::mixed, Check.ARGUMENT, x -> x.cordsFor(sum, 2));
        }
        for (int what : new int[] {Made.MIN, -1, 2, Made.MAX}) {
            Check.refuses("what " + what, Made::mixed, Check.ARGUMENT, x -> x.cordsFor(1, what));
        }
    }

    private static void fullest() {
        Check.sentence("Promise 24", "Finds the fullest cord.");
        for (int cord = 0; cord <= 6; cord++) {
            HerdCords x = new HerdCords();
            x.tie(cord, 1);
            Check.same("one alone", x.fullest(), cord);
        }
        Check.sentence("Promise 24", "Returns the cord with the most ties, of several the lowest.");
        Check.same("no ties at all", new HerdCords().fullest(), 0);
        Check.same("all alike", Made.tied(2, 2, 2, 2, 2, 2, 2).fullest(), 0);
        Check.same("the last one", Made.tied(2, 2, 2, 2, 2, 2, 3).fullest(), 6);
        Check.same("of two the lower", Made.tied(1, 3, 2, 2, 3, 2, 1).fullest(), 1);
        Check.same("ties, not what it tells", Made.tied(900000, 0, 55).fullest(), 2);
        HerdCords loops = Made.tied(20, 0, 19);
        Check.same("ten knots", loops.fullest(), 2);
        HerdCords closed = Made.tied(29, 9);
        closed.tie(1, 1);
        Check.same("loops are ties: 12 and 11", closed.fullest(), 1);
        closed.tie(0, 100);
        Check.same("12 and 12", closed.fullest(), 0);
        closed.slip(0, 0);
        Check.same("11 and 12", closed.fullest(), 1);
    }

    private static void closedShare() {
        Check.sentence("Promise 25", "Returns how many knots are closed.");
        HerdCords x = Made.tied(95);
        x.tie(0, 7);
        Check.sameDouble("20 of 23", x.closedShare(), 20.0 / 23.0);
        Check.sentence("Promise 25", "Returns the knots that loops close, of all cords, as a double, divided by all their knots; "
            + "0.0 without knots.");
        Check.sameDouble("a new object", new HerdCords().closedShare(), 0.0);
        HerdCords slipped = Made.tied(1);
        slipped.slip(0, 0);
        Check.sameDouble("the only knot slipped", slipped.closedShare(), 0.0);
        HerdCords gone = Made.parts(9, 1);
        gone.renew(0);
        Check.sameDouble("all went", gone.closedShare(), 0.0);
        Check.sameDouble("open knots alone", Made.tied(9).closedShare(), 0.0);
        HerdCords ten = Made.parts(9, 1);
        Check.sameDouble("10 of 11", ten.closedShare(), 10.0 / 11.0);
        ten.slip(0, 1);
        Check.sameDouble("10 of 10", ten.closedShare(), 1.0);
        ten.tie(6, 2);
        Check.sameDouble("of all cords", ten.closedShare(), 10.0 / 12.0);
        ten.tie(6, 9);
        Check.sameDouble("loops of two cords", ten.closedShare(), 20.0 / 22.0);
        HerdCords little = Made.tied(9, 999999, 999999, 999999, 999999, 999999, 999999);
        little.tie(0, 1);
        Check.sameDouble("a small share", little.closedShare(), 10.0 / 335.0);
    }

    private static void digest() {
        Check.sentence("Promise 26", "Computes a hash of the whole state.");
        Check.sentence("Promise 26", "The hash starts at 3673. For each value v of the following list, in order, the hash becomes "
            + "31 * hash + v, in long arithmetic with overflow. The values are: count(0) to count(9); for each cord its numbers "
            + "0 to 7, for each place its numbers 0 to 3, its parts in their order, whyNot of 999, and howOften of 95; byHue of "
            + "0 to 5; cordsFor of 95 with 0, of 95 with 1, of 1234 with 0, and of 1234 with 1; fullest; the bits of closedShare "
            + "(as Double.doubleToLongBits); for each slot 1 if it has a snapshot, otherwise 0; the length of the buffer and "
            + "each of its character codes.");
        Check.sentence("Promise 26", "Returns the hash.");
        sameDigest("a new object", new HerdCords(), 0, 0, "");
        sameDigest("edges", Made.mixed(), 1, 1, "0+5;1");
        HerdCords x = Made.tied(95, 1139, 999000, 999001, 999904, 999905, 47);
        sameDigest("whyNot of 999 and howOften of 95 at their edges", x, 0, 0, "");
        x.keep(0);
        sameDigest("slot 0", x, 1, 0, "");
        HerdCords one = Made.sixteenParts();
        sameDigest("slot 1, 16 parts", one, 0, 1, "");
        String full = "!~".repeat(30);
        Check.type(one, full);
        sameDigest("a full buffer", one, 0, 1, full);
        HerdCords shares = Made.parts(9, 1);
        sameDigest("a share below 1", shares, 0, 0, "");
        shares.slip(0, 1);
        sameDigest("the share 1", shares, 0, 0, "");
        shares.tie(0, 55);
        shares.tie(0, 55);
        sameDigest("the share one half or more", shares, 0, 0, "");
        shares.tie(1, 999999);
        shares.tie(2, 999999);
        sameDigest("a share below one half", shares, 0, 0, "");
        sameDigest("cords for 95 and for 1234", Made.tied(0, 95, 0, 0, 34, 0, 1200), 0, 0, "");
    }

    private static void sameDigest(String what, HerdCords x, int slot0, int slot1, String text) {
        long hash = 3673;
        for (long value : values(x, slot0, slot1, text)) {
            hash = 31 * hash + value;
        }
        Check.same(what, x.digest(), hash);
    }

    private static List<Long> values(HerdCords x, int slot0, int slot1, String text) {
        List<Long> values = new ArrayList<>();
        for (int what = 0; what <= 9; what++) {
            values.add((long) x.count(what));
        }
        for (int cord = 0; cord <= 6; cord++) {
            for (int what = 0; what <= 7; what++) {
                values.add((long) x.cordOf(cord, what));
            }
            for (int at = 0; at < 24; at++) {
                values.add((long) x.placeOf(cord, at / 4, at % 4));
            }
            for (int rank = 0; x.part(cord, rank) != Made.NONE; rank++) {
                values.add((long) x.part(cord, rank));
            }
            values.add((long) x.whyNot(cord, 999));
            values.add((long) x.howOften(cord, 95));
        }
        for (int hue = 0; hue <= 5; hue++) {
            values.add((long) x.byHue(hue));
        }
        for (int at = 0; at < 4; at++) {
            values.add((long) x.cordsFor(at < 2 ? 95 : 1234, at % 2));
        }
        values.add((long) x.fullest());
        values.add(Double.doubleToLongBits(x.closedShare()));
        values.add((long) slot0);
        values.add((long) slot1);
        values.add((long) text.length());
        for (int at = 0; at < text.length(); at++) {
            values.add((long) text.charAt(at));
        }
        return values;
    }

    /** The hash of all numbers, without a bound; the lowest 64 bits of it are due. */
    private static void digestOverflow() {
        HerdCords x = Made.parts(9, 1);
        BigInteger hash = BigInteger.valueOf(3673);
        for (long value : values(x, 0, 0, "")) {
            hash = hash.multiply(BigInteger.valueOf(31)).add(BigInteger.valueOf(value));
        }
        Check.same("far beyond 64 bits", hash.bitLength() > 1000 ? 1 : 0, 1);
        Check.same("the lowest 64 bits", x.digest(), hash.longValue());
        int below = 0;
        for (int number = 1; number <= 16; number++) {
            below += Made.tied(number).digest() < 0 ? 1 : 0;
        }
        Check.same("some hashes are below 0, some are not", below > 0 && below < 16 ? 1 : 0, 1);
    }

    private static void digestTellsAll() {
        long fresh = new HerdCords().digest();
        Check.same("the same again", new HerdCords().digest(), fresh);
        HerdCords x = new HerdCords();
        x.append(33);
        Check.same("a character is told", x.digest() == fresh ? 1 : 0, 0);
        x.clearBuffer();
        Check.same("a cleared buffer is told as an empty one", x.digest(), fresh);
        x.keep(1);
        long kept = x.digest();
        Check.same("a slot is told", kept == fresh ? 1 : 0, 0);
        x.keep(1);
        Check.same("what the slot holds is not", x.digest(), kept);
        x.set(40);
        Check.same("a saved state is told", x.digest() == kept ? 1 : 0, 0);
        x.undo();
        Check.same("until it is undone", x.digest(), kept);
    }
}
