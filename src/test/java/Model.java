import java.util.ArrayDeque;
import java.util.ArrayList;
import java.util.List;
import java.util.regex.Pattern;

/**
 * The document once more, in another form than the class: knot by knot, with texts matched by patterns and states
 * copied whole. It takes its time, and is there for answers to compare with.
 */
final class Model {
    private static final String ORDER = orderPattern();
    private static final Pattern WHOLE = Pattern.compile(ORDER + "(;" + ORDER + ")*");
    private static final Pattern BEGUN = Pattern.compile("(" + ORDER + ";)*(" + ORDER + "|[0-6][+>~]?)?");

    private static String orderPattern() {
        StringBuilder text = new StringBuilder("([0-6]\\+[1-9][0-9]{0,5}|[0-6]~[0-5]");
        for (int from = 0; from <= 6; from++) {
            text.append('|').append(from).append(">[").append("0123456".replace("" + from, "")).append(']');
        }
        return text.append(')').toString();
    }

    static final class OneCord {
        int[] knots = new int[7];
        int[] loops = new int[7];
        List<Integer> parts = new ArrayList<>();
        int hue = 0;
        int slipped = 0;

        OneCord copy() {
            OneCord twin = new OneCord();
            twin.knots = knots.clone();
            twin.loops = loops.clone();
            twin.parts = new ArrayList<>(parts);
            twin.hue = hue;
            twin.slipped = slipped;
            return twin;
        }

        int open(int place) {
            return knots[place] - 10 * loops[place];
        }

        int told() {
            int sum = 0;
            int weight = 1;
            for (int place = 0; place < 7; place++, weight *= 10) {
                sum += open(place) * weight;
            }
            return sum;
        }

        int together() {
            return parts.stream().mapToInt(part -> part).sum();
        }

        int ties() {
            int sum = 0;
            for (int place = 0; place < 7; place++) {
                sum += knots[place] + loops[place];
            }
            return sum;
        }

        /** Ties knot by knot; a seventh place takes what goes beyond, so that it can be told and refused. */
        void tieDigits(long number) {
            long rest = number;
            for (int place = 0; place < 6; place++, rest /= 10) {
                for (long digit = rest % 10; digit > 0; digit--) {
                    knots[place]++;
                }
                while (open(place) >= 10) {
                    loops[place]++;
                    knots[place + 1]++;
                }
            }
            knots[6] += (int) rest;
        }
    }

    static final class Whole {
        OneCord[] cords = new OneCord[7];
        int room = 40;
        int[] soFar = new int[7];

        Whole copy() {
            Whole twin = new Whole();
            for (int cord = 0; cord < 7; cord++) {
                twin.cords[cord] = cords[cord].copy();
            }
            twin.room = room;
            twin.soFar = soFar.clone();
            return twin;
        }
    }

    private Whole now = new Whole();
    private final ArrayDeque<Whole> saved = new ArrayDeque<>();
    private final Whole[] slots = new Whole[2];
    private String text = "";

    Model() {
        for (int cord = 0; cord < 7; cord++) {
            now.cords[cord] = new OneCord();
        }
    }

    private void save() {
        saved.addLast(now.copy());
        if (saved.size() > 6) {
            saved.removeFirst();
        }
    }

    private static void index(boolean right) {
        if (!right) {
            throw new IndexOutOfBoundsException();
        }
    }

    private static void argument(boolean right) {
        if (!right) {
            throw new IllegalArgumentException();
        }
    }

    private static void state(boolean right) {
        if (!right) {
            throw new IllegalStateException();
        }
    }

    private static boolean in(int value, int least, int most) {
        return least <= value && value <= most;
    }

    private int reason(OneCord cord, int number, boolean asPart) {
        if (asPart && cord.parts.size() == 16) {
            return 3;
        }
        OneCord then = cord.copy();
        then.tieDigits(number);
        if (then.told() > 999999) {
            return 1;
        }
        for (int place = 0; place < 6; place++) {
            boolean tied = then.knots[place] != cord.knots[place] || then.loops[place] != cord.loops[place];
            if (tied && then.knots[place] + then.loops[place] > now.room) {
                return 2;
            }
        }
        return 0;
    }

    /** Answers how many loops are tied, or 0 less the reason less 1. */
    private int tieOnto(OneCord cord, int number, boolean asPart) {
        int reason = reason(cord, number, asPart);
        if (reason != 0) {
            now.soFar[6]++;
            return -reason - 1;
        }
        int[] before = {knotsOf(cord), cord.ties()};
        cord.tieDigits(number);
        if (asPart) {
            cord.parts.add(number);
        }
        int knots = knotsOf(cord) - before[0];
        int loops = cord.ties() - before[1] - knots;
        now.soFar[2] += knots;
        now.soFar[3] += loops;
        return loops;
    }

    private static int knotsOf(OneCord cord) {
        int sum = 0;
        for (int knots : cord.knots) {
            sum += knots;
        }
        return sum;
    }

    private int doTie(int cord, int number) {
        int loops = tieOnto(now.cords[cord], number, true);
        return loops < 0 ? -loops - 1 : 10 + loops;
    }

    private int doAdd(int from, int to) {
        int number = now.cords[from].told();
        return number == 0 ? 0 : doTie(to, number);
    }

    private int doSlip(int cord, int place) {
        OneCord chosen = now.cords[cord];
        if (chosen.open(place) == 0) {
            now.soFar[6]++;
            return -1;
        }
        chosen.knots[place]--;
        chosen.slipped++;
        now.soFar[4]++;
        return chosen.open(place);
    }

    int tie(int cord, int number) {
        index(in(cord, 0, 6));
        argument(in(number, 1, 999999));
        save();
        return doTie(cord, number);
    }

    int add(int from, int to) {
        index(in(from, 0, 6) && in(to, 0, 6));
        argument(from != to);
        save();
        return doAdd(from, to);
    }

    int slip(int cord, int place) {
        index(in(cord, 0, 6) && in(place, 0, 5));
        save();
        return doSlip(cord, place);
    }

    int mend(int cord) {
        index(in(cord, 0, 6));
        save();
        OneCord chosen = now.cords[cord];
        int lack = chosen.together() - chosen.told();
        int loops = lack == 0 ? 0 : tieOnto(chosen, lack, false);
        return loops < 0 ? loops + 1 : lack;
    }

    int renew(int cord) {
        index(in(cord, 0, 6));
        save();
        OneCord old = now.cords[cord];
        now.soFar[5] += old.ties();
        now.cords[cord] = new OneCord();
        now.cords[cord].hue = old.hue;
        return old.told();
    }

    int dye(int cord, int hue) {
        index(in(cord, 0, 6));
        argument(in(hue, 0, 5));
        save();
        int before = now.cords[cord].hue;
        now.cords[cord].hue = hue;
        return before;
    }

    int set(int value) {
        argument(in(value, 20, 99));
        save();
        int before = now.room;
        now.room = value;
        return before;
    }

    int append(int code) {
        argument(in(code, 33, 126));
        state(text.length() < 60);
        text += (char) code;
        return text.length();
    }

    int clearBuffer() {
        int before = text.length();
        text = "";
        return before;
    }

    int firstError() {
        for (int at = 0; at < text.length(); at++) {
            if (!BEGUN.matcher(text.substring(0, at + 1)).matches()) {
                return at;
            }
        }
        return text.length();
    }

    int run() {
        argument(WHOLE.matcher(text).matches());
        save();
        int done = 0;
        for (String order : text.split(";")) {
            int cord = order.charAt(0) - '0';
            int value = Integer.parseInt(order.substring(2));
            int refusedBefore = now.soFar[6];
            switch (order.charAt(1)) {
                case '+' -> doTie(cord, value);
                case '>' -> doAdd(cord, value);
                default -> doSlip(cord, value);
            }
            if (now.soFar[6] > refusedBefore) {
                break;
            }
            done++;
        }
        text = "";
        return done;
    }

    int keep(int slot) {
        argument(in(slot, 0, 1));
        slots[slot] = now.copy();
        return count(1);
    }

    int goBack(int slot) {
        argument(in(slot, 0, 1));
        state(slots[slot] != null);
        save();
        now = slots[slot].copy();
        return count(1);
    }

    int undo() {
        state(!saved.isEmpty());
        now = saved.removeLast();
        return saved.size();
    }

    int cordOf(int cord, int what) {
        index(in(cord, 0, 6));
        argument(in(what, 0, 7));
        OneCord chosen = now.cords[cord];
        int[] all = {chosen.told(), chosen.together(), chosen.parts.size(), chosen.together() - chosen.told(),
            chosen.ties(), chosen.ties() - knotsOf(chosen), chosen.hue, chosen.slipped};
        return all[what];
    }

    int placeOf(int cord, int place, int what) {
        index(in(cord, 0, 6) && in(place, 0, 5));
        argument(in(what, 0, 3));
        int knots = now.cords[cord].knots[place];
        int loops = now.cords[cord].loops[place];
        return new int[] {knots, loops, knots - 10 * loops, Math.max(0, now.room - knots - loops)}[what];
    }

    int part(int cord, int rank) {
        index(in(cord, 0, 6));
        argument(rank >= 0);
        List<Integer> parts = now.cords[cord].parts;
        return rank < parts.size() ? parts.get(rank) : -1;
    }

    int count(int what) {
        argument(in(what, 0, 9));
        int sum = 0;
        for (OneCord cord : now.cords) {
            switch (what) {
                case 0 -> sum += cord.told();
                case 1 -> sum += cord.ties();
                case 7 -> sum += cord.together() == cord.told() ? 0 : 1;
                default -> { }
            }
        }
        if (what == 8) {
            return now.room;
        }
        if (what == 9) {
            return saved.size();
        }
        return what >= 2 && what <= 6 ? now.soFar[what] : sum;
    }

    int byHue(int hue) {
        argument(in(hue, 0, 5));
        int sum = 0;
        for (OneCord cord : now.cords) {
            sum += cord.hue == hue ? cord.told() : 0;
        }
        return sum;
    }

    int whyNot(int cord, int number) {
        index(in(cord, 0, 6));
        argument(in(number, 1, 999999));
        return reason(now.cords[cord], number, true);
    }

    int howOften(int cord, int number) {
        index(in(cord, 0, 6));
        argument(in(number, 1, 999999));
        Whole before = now.copy();
        int times = 0;
        while (doTie(cord, number) >= 10) {
            times++;
        }
        now = before;
        return times;
    }

    int cordsFor(int sum, int what) {
        argument(in(sum, 1, 9999999) && in(what, 0, 1));
        for (int size = 1; size <= 7; size++) {
            for (int mask = 1; mask < 128; mask++) {
                int told = 0;
                for (int cord = 0; cord < 7; cord++) {
                    told += (mask & 1 << cord) != 0 ? now.cords[cord].told() : 0;
                }
                if (Integer.bitCount(mask) == size && told == sum) {
                    return mask;
                }
            }
        }
        return -1;
    }

    int fullest() {
        int best = 6;
        for (int cord = 5; cord >= 0; cord--) {
            best = now.cords[cord].ties() >= now.cords[best].ties() ? cord : best;
        }
        return best;
    }

    double closedShare() {
        int knots = 0;
        int ties = 0;
        for (OneCord cord : now.cords) {
            knots += knotsOf(cord);
            ties += cord.ties();
        }
        return knots == 0 ? 0.0 : (ties - knots) * 10.0 / knots;
    }

    long digest() {
        List<Long> values = new ArrayList<>();
        for (int what = 0; what <= 9; what++) {
            values.add((long) count(what));
        }
        for (int cord = 0; cord < 7; cord++) {
            for (int what = 0; what <= 7; what++) {
                values.add((long) cordOf(cord, what));
            }
            for (int at = 0; at < 24; at++) {
                values.add((long) placeOf(cord, at / 4, at % 4));
            }
            for (int part : now.cords[cord].parts) {
                values.add((long) part);
            }
            values.add((long) whyNot(cord, 999));
            values.add((long) howOften(cord, 95));
        }
        for (int hue = 0; hue <= 5; hue++) {
            values.add((long) byHue(hue));
        }
        for (int at = 0; at < 4; at++) {
            values.add((long) cordsFor(at < 2 ? 95 : 1234, at % 2));
        }
        values.add((long) fullest());
        values.add(Double.doubleToLongBits(closedShare()));
        values.add(slots[0] == null ? 0L : 1L);
        values.add(slots[1] == null ? 0L : 1L);
        values.add((long) text.length());
        text.chars().forEach(sign -> values.add((long) sign));
        long hash = 3673;
        for (long value : values) {
            hash = 31 * hash + value;
        }
        return hash;
    }
}
