/** Promises 21 to 26: why not, how often, sums, the fullest cord, the share and the digest. */
public final class WouldBeTest {
    public static void main(String[] args) {
        promise21WhyNot();
        promise22HowOften();
        promise23CordsFor();
        promise23FewestThenLeast();
        promise24Fullest();
        promise25ClosedShare();
        promise26Digest();
        Check.end();
    }

    private static void promise21WhyNot() {
        HerdCords x = new HerdCords();
        Check.same("21: no reason", x.whyNot(0, 999999), 0);
        x.tie(0, 1);
        Check.same("21: tells too much", x.whyNot(0, 999999), 1);
        Check.same("21: up to the largest", x.whyNot(0, 999998), 0);
        x.set(20);
        x.tie(1, 9);
        x.tie(1, 9);
        Check.same("21: no room", x.whyNot(1, 2), 2);
        Check.same("21: room for one", x.whyNot(1, 1), 0);
        x.tie(2, 90);
        x.tie(2, 90);
        x.tie(2, 9);
        Check.same("21: no room for what is carried", x.whyNot(2, 11), 2);
        Check.same("21: room for what is carried", x.whyNot(2, 1), 0);
        Check.same("21: ahead of no room", x.whyNot(1, 999999), 1);
        for (int time = 0; time < 16; time++) {
            x.tie(3, 1);
        }
        Check.same("21: 16 parts ahead of all", x.whyNot(3, 999999), 3);
        Check.same("21: refused so far", x.count(6), 0);
        Check.refuses("21: cord 7", x, Check.INDEX, () -> x.whyNot(7, 1));
        Check.refuses("21: cord and number", x, Check.INDEX, () -> x.whyNot(-1, 0));
        Check.refuses("21: number 0", x, Check.ARGUMENT, () -> x.whyNot(0, 0));
        Check.refuses("21: number 1000000", x, Check.ARGUMENT, () -> x.whyNot(0, 1000000));
    }

    private static void promise22HowOften() {
        HerdCords x = new HerdCords();
        Check.same("22: by room", x.howOften(0, 95), 3);
        Check.same("22: by parts", x.howOften(0, 1), 16);
        Check.same("22: by what it tells", x.howOften(0, 300000), 3);
        Check.same("22: once", x.howOften(0, 999999), 1);
        x.tie(0, 95);
        long before = x.digest();
        Check.same("22: by room", x.howOften(0, 95), 2);
        Check.same("22: by parts", x.howOften(0, 1), 15);
        Check.same("22: never", x.howOften(0, 999999), 0);
        Check.same("22: nothing is changed", x.digest(), before);
        int times = x.howOften(0, 48);
        for (int time = 0; time < times; time++) {
            Check.same("22: why not " + time, x.whyNot(0, 48), 0);
            x.tie(0, 48);
        }
        Check.same("22: then refused", x.whyNot(0, 48), 2);
        x.set(99);
        Check.same("22: more room", x.howOften(1, 95), 9);
        Check.refuses("22: cord 7", x, Check.INDEX, () -> x.howOften(7, 1));
        Check.refuses("22: cord and number", x, Check.INDEX, () -> x.howOften(-1, 0));
        Check.refuses("22: number 0", x, Check.ARGUMENT, () -> x.howOften(0, 0));
        Check.refuses("22: number 1000000", x, Check.ARGUMENT, () -> x.howOften(0, 1000000));
    }

    private static void bothWays(HerdCords x, int sum, int due) {
        Check.same("23: by all sets: " + sum, x.cordsFor(sum, 0), due);
        Check.same("23: by trying: " + sum, x.cordsFor(sum, 1), due);
    }

    private static HerdCords tied(int... numbers) {
        HerdCords x = new HerdCords();
        for (int cord = 0; cord < numbers.length; cord++) {
            if (numbers[cord] > 0) {
                x.tie(cord, numbers[cord]);
            }
        }
        return x;
    }

    private static void promise23CordsFor() {
        HerdCords x = tied(1, 2, 4, 8, 16, 32, 64);
        for (int sum = 1; sum <= 127; sum++) {
            bothWays(x, sum, sum);
        }
        bothWays(x, 128, HerdCords.NONE);
        bothWays(x, 9999999, HerdCords.NONE);
        x.slip(1, 0);
        bothWays(x, 2, 3);
        bothWays(x, 3, HerdCords.NONE);
        bothWays(x, 6, 7);
        HerdCords most = tied(999999, 999999, 999999, 999999, 999999, 999999, 999999);
        bothWays(most, 6999993, 127);
        bothWays(new HerdCords(), 1, HerdCords.NONE);
        Check.refuses("23: sum 0", x, Check.ARGUMENT, () -> x.cordsFor(0, 0));
        Check.refuses("23: sum 10000000", x, Check.ARGUMENT, () -> x.cordsFor(10000000, 1));
        Check.refuses("23: what 2", x, Check.ARGUMENT, () -> x.cordsFor(1, 2));
        Check.refuses("23: what -1", x, Check.ARGUMENT, () -> x.cordsFor(1, -1));
    }

    private static void promise23FewestThenLeast() {
        bothWays(tied(1, 2, 3, 6, 3, 3, 0), 6, 8);
        bothWays(tied(1, 2, 3, 0, 3, 3, 0), 6, 4 + 16);
        bothWays(tied(5, 5, 5, 5, 5, 5, 5), 15, 7);
        bothWays(tied(1, 9, 0, 4, 6, 0, 10), 10, 64);
        bothWays(tied(1, 9, 0, 4, 6, 0, 0), 10, 3);
        bothWays(tied(0, 0, 7, 0, 0, 0, 7), 7, 4);
        bothWays(tied(1, 4, 5, 0, 0, 3, 7), 10, 32 + 64);
        bothWays(tied(2, 7, 6, 3, 8, 4, 0), 10, 10);
    }

    private static void promise24Fullest() {
        HerdCords x = new HerdCords();
        Check.same("24: no ties", x.fullest(), 0);
        x.tie(3, 2);
        Check.same("24: two", x.fullest(), 3);
        x.tie(5, 200000);
        Check.same("24: of two the lowest", x.fullest(), 3);
        x.tie(1, 20);
        Check.same("24: of three the lowest", x.fullest(), 1);
        x.tie(6, 3);
        Check.same("24: three", x.fullest(), 6);
        HerdCords loops = tied(19, 9);
        loops.tie(1, 1);
        Check.same("24: loops are ties", loops.fullest(), 1);
    }

    private static void promise25ClosedShare() {
        HerdCords x = new HerdCords();
        Check.sameDouble("25: no knots", x.closedShare(), 0.0);
        x.tie(0, 95);
        Check.sameDouble("25: no loops", x.closedShare(), 0.0);
        x.tie(0, 7);
        Check.sameDouble("25: two loops", x.closedShare(), 20.0 / 23.0);
        x.tie(4, 8);
        Check.sameDouble("25: of all cords", x.closedShare(), 20.0 / 31.0);
        HerdCords whole = tied(9);
        whole.tie(0, 1);
        whole.slip(0, 1);
        Check.sameDouble("25: all are closed", whole.closedShare(), 1.0);
    }

    private static void promise26Digest() {
        HerdCords x = new HerdCords();
        Check.same("26: a new object", x.digest(), digestOf(x, 0, 0, ""));
        x.tie(0, 95);
        x.tie(0, 7);
        x.tie(1, 1132);
        x.tie(2, 1234);
        x.dye(2, 3);
        x.keep(1);
        Check.type(x, "0+95;x");
        Check.same("26: a share, a slot and a text", x.digest(), digestOf(x, 0, 1, "0+95;x"));
        x.keep(0);
        x.clearBuffer();
        for (int cord = 0; cord < 7; cord++) {
            x.renew(cord);
        }
        x.tie(5, 9);
        x.tie(5, 1);
        Check.same("26: a share and both slots", x.digest(), digestOf(x, 1, 1, ""));
        x.slip(5, 1);
        Check.same("26: the share 1", x.digest(), digestOf(x, 1, 1, ""));
        HerdCords edges = tied(95, 999000, 999904, 1139);
        Check.same("26: just up to 95 and 1234, and up to 999 and 95 more", edges.digest(), digestOf(edges, 0, 0, ""));
    }

    private static long digestOf(HerdCords x, int slot0, int slot1, String text) {
        java.util.ArrayList<Long> values = new java.util.ArrayList<>();
        for (int what = 0; what <= 9; what++) {
            values.add((long) x.count(what));
        }
        for (int cord = 0; cord < 7; cord++) {
            for (int what = 0; what <= 7; what++) {
                values.add((long) x.cordOf(cord, what));
            }
            for (int place = 0; place < 6; place++) {
                for (int what = 0; what <= 3; what++) {
                    values.add((long) x.placeOf(cord, place, what));
                }
            }
            for (int rank = 0; rank < x.cordOf(cord, 2); rank++) {
                values.add((long) x.part(cord, rank));
            }
            values.add((long) x.whyNot(cord, 999));
            values.add((long) x.howOften(cord, 95));
        }
        for (int hue = 0; hue <= 5; hue++) {
            values.add((long) x.byHue(hue));
        }
        values.add((long) x.cordsFor(95, 0));
        values.add((long) x.cordsFor(95, 1));
        values.add((long) x.cordsFor(1234, 0));
        values.add((long) x.cordsFor(1234, 1));
        values.add((long) x.fullest());
        values.add(Double.doubleToLongBits(x.closedShare()));
        values.add((long) slot0);
        values.add((long) slot1);
        values.add((long) text.length());
        for (int at = 0; at < text.length(); at++) {
            values.add((long) text.charAt(at));
        }
        long hash = 3673;
        for (long value : values) {
            hash = 31 * hash + value;
        }
        return hash;
    }
}
