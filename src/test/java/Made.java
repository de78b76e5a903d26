/** Objects that edges are looked at on; each call makes the same one anew. */
final class Made {
    static final int NONE = HerdCords.NONE;
    static final int MIN = Integer.MIN_VALUE;
    static final int MAX = Integer.MAX_VALUE;

    private Made() {
    }

    /** Ties the numbers onto the cords from 0 on, each as one part; 0 leaves a cord as it is. */
    static HerdCords tied(int... numbers) {
        HerdCords x = new HerdCords();
        for (int cord = 0; cord < numbers.length; cord++) {
            if (numbers[cord] > 0) {
                x.tie(cord, numbers[cord]);
            }
        }
        return x;
    }

    /** Cord 0 has the parts, one after the other. */
    static HerdCords parts(int... numbers) {
        HerdCords x = new HerdCords();
        for (int number : numbers) {
            x.tie(0, number);
        }
        return x;
    }

    static HerdCords partsOf(int number, int times) {
        HerdCords x = new HerdCords();
        tieTimes(x, 0, number, times);
        return x;
    }

    static void tieTimes(HerdCords x, int cord, int number, int times) {
        for (int time = 0; time < times; time++) {
            x.tie(cord, number);
        }
    }

    static void slipTimes(HerdCords x, int cord, int place, int times) {
        for (int time = 0; time < times; time++) {
            x.slip(cord, place);
        }
    }

    static void slipAll(HerdCords x, int cord) {
        for (int place = 0; place < 6; place++) {
            slipTimes(x, cord, place, x.placeOf(cord, place, 2));
        }
    }

    /** With room 20: the place 0 of cord 0 has 18 knots and a loop, so that there is room for one tie. */
    static HerdCords roomForOne() {
        HerdCords x = new HerdCords();
        x.set(20);
        tieTimes(x, 0, 9, 2);
        return settled(x);
    }

    /** With room 20: the place 0 of cord 0 is full: 19 knots and a loop. */
    static HerdCords full() {
        HerdCords x = roomForOne();
        x.tie(0, 1);
        return settled(x);
    }

    static HerdCords sixteenParts() {
        return settled(partsOf(1, 16));
    }

    /** Cord 0 tells 999999, cord 1 has 16 parts, cord 2 a full place 0, cord 3 lacks 1; the room is 20. */
    static HerdCords mixed() {
        HerdCords x = tied(999999);
        x.set(20);
        tieTimes(x, 1, 10, 16);
        tieTimes(x, 2, 9, 2);
        x.tie(2, 1);
        x.tie(3, 52);
        x.slip(3, 0);
        x.dye(4, 5);
        x.keep(0);
        Check.type(x, "0+5;1");
        return settled(x);
    }

    /** The same but for its saved states, of which only one is left, and slot 1, which tells it too. */
    static HerdCords settled(HerdCords x) {
        x.keep(1);
        for (int left = x.count(9); left > 0; left--) {
            x.undo();
        }
        x.goBack(1);
        return x;
    }
}
