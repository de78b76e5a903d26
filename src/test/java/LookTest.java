/** Promises 16 to 20: looks at cords, places, parts, counts and hues. */
public final class LookTest {
    public static void main(String[] args) {
        promise16CordOf();
        promise17PlaceOf();
        promise18Part();
        promise19Count();
        promise20ByHue();
        Check.end();
    }

    private static HerdCords herd() {
        HerdCords x = new HerdCords();
        x.dye(2, 5);
        x.tie(2, 95);
        x.tie(2, 7);
        x.tie(2, 940);
        x.slip(2, 3);
        x.slip(2, 1);
        return x;
    }

    private static void promise16CordOf() {
        HerdCords x = herd();
        long before = x.digest();
        int[] due = {32, 1042, 3, 1010, 38, 3, 5, 2};
        for (int what = 0; what <= 7; what++) {
            Check.same("16: cordOf 2 " + what, x.cordOf(2, what), due[what]);
            Check.same("16: cordOf 3 " + what, x.cordOf(3, what), 0);
        }
        Check.same("16: nothing is changed", x.digest(), before);
        Check.refuses("16: cord 7", x, Check.INDEX, () -> x.cordOf(7, 0));
        Check.refuses("16: cord -1 and what", x, Check.INDEX, () -> x.cordOf(-1, 8));
        Check.refuses("16: what 8", x, Check.ARGUMENT, () -> x.cordOf(0, 8));
        Check.refuses("16: what -1", x, Check.ARGUMENT, () -> x.cordOf(0, -1));
        x.tie(2, 999);
        Check.same("16: parts may be more than it tells", x.cordOf(2, 1), 2041);
        Check.same("16: what it tells then", x.cordOf(2, 0), 1031);
        Check.same("16: still lacks", x.cordOf(2, 3), 1010);
    }

    private static void promise17PlaceOf() {
        HerdCords x = herd();
        int[][] due = {{12, 1, 2, 27}, {13, 1, 3, 26}, {10, 1, 0, 29}, {0, 0, 0, 40}, {0, 0, 0, 40}, {0, 0, 0, 40}};
        for (int place = 0; place < 6; place++) {
            for (int what = 0; what <= 3; what++) {
                Check.same("17: placeOf " + place + " " + what, x.placeOf(2, place, what), due[place][what]);
            }
        }
        x.tie(2, 9);
        x.set(20);
        Check.same("17: more ties than room", x.placeOf(2, 0, 3), 0);
        Check.same("17: room yet", x.placeOf(2, 2, 3), 9);
        Check.refuses("17: cord 7", x, Check.INDEX, () -> x.placeOf(7, 0, 0));
        Check.refuses("17: place 6", x, Check.INDEX, () -> x.placeOf(0, 6, 0));
        Check.refuses("17: place -1 and what", x, Check.INDEX, () -> x.placeOf(0, -1, 4));
        Check.refuses("17: what 4", x, Check.ARGUMENT, () -> x.placeOf(0, 0, 4));
        Check.refuses("17: what -1", x, Check.ARGUMENT, () -> x.placeOf(0, 0, -1));
    }

    private static void promise18Part() {
        HerdCords x = herd();
        Check.same("18: the first one", x.part(2, 0), 95);
        Check.same("18: the third one", x.part(2, 2), 940);
        Check.same("18: no fourth one", x.part(2, 3), HerdCords.NONE);
        Check.same("18: no 17th one", x.part(2, 16), HerdCords.NONE);
        Check.same("18: far away", x.part(2, Integer.MAX_VALUE), HerdCords.NONE);
        Check.refuses("18: cord 7", x, Check.INDEX, () -> x.part(7, 0));
        Check.refuses("18: cord and rank", x, Check.INDEX, () -> x.part(-1, -1));
        Check.refuses("18: rank -1", x, Check.ARGUMENT, () -> x.part(2, -1));
        for (int time = 0; time < 13; time++) {
            x.tie(2, 10000);
        }
        Check.same("18: the 16th one", x.part(2, 15), 10000);
        x.renew(2);
        Check.same("18: none of a new cord", x.part(2, 0), HerdCords.NONE);
    }

    private static void promise19Count() {
        HerdCords x = herd();
        x.tie(0, 11);
        x.slip(0, 5);
        x.slip(0, 0);
        x.renew(0);
        x.tie(1, 9);
        x.slip(1, 0);
        int[] due = {40, 46, 48, 3, 4, 1, 1, 2, 40, 6};
        for (int what = 0; what <= 9; what++) {
            Check.same("19: count " + what, x.count(what), due[what]);
        }
        x.mend(1);
        Check.same("19: mended", x.count(7), 1);
        Check.same("19: knots of mending", x.count(2), 49);
        x.set(77);
        Check.same("19: the setting", x.count(8), 77);
        Check.refuses("19: 10", x, Check.ARGUMENT, () -> x.count(10));
        Check.refuses("19: -1", x, Check.ARGUMENT, () -> x.count(-1));
    }

    private static void promise20ByHue() {
        HerdCords x = herd();
        x.tie(0, 7);
        x.tie(6, 600);
        x.dye(6, 5);
        Check.same("20: hue 0", x.byHue(0), 7);
        Check.same("20: hue 5", x.byHue(5), 632);
        Check.same("20: hue 1", x.byHue(1), 0);
        Check.refuses("20: hue 6", x, Check.ARGUMENT, () -> x.byHue(6));
        Check.refuses("20: hue -1", x, Check.ARGUMENT, () -> x.byHue(-1));
    }
}
