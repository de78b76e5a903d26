/**
 * Numbers knotted onto a herdsman's cords that are added to without being untied.
 *
 * <p>The face looks at its arguments and saves the state before a change; what becomes of the cords stands in Herd
 * and Cord, so that a single call and an order told as a text do the very same.
 */
public final class HerdCords {
    /** There is nothing to return. */
    public static final int NONE = -1;

    private static final int CORDS = 7;
    private static final int PLACES = 6;
    private static final int HUES = 6;
    private static final int MOST_PARTS = 16;
    private static final int MOST_TOLD = 999999;
    private static final int MOST_SUM = 9999999;

    private static final int LEAST_ROOM = 20;
    private static final int MOST_ROOM = 99;
    private static final int FIRST_ROOM = 40;

    private static final int TELLS_TOO_MUCH = 1;
    private static final int NO_ROOM = 2;
    private static final int TOO_MANY_PARTS = 3;
    private static final int TIED = 10;

    private static final int MOST_SIGNS = 60;
    private static final int FIRST_SIGN = 33;
    private static final int LAST_SIGN = 126;

    private static final int SLOTS = 2;
    private static final int MOST_SAVED = 6;

    private final Herd herd = new Herd();
    private final History history = new History();
    private final Herd[] snapshots = new Herd[SLOTS];
    private final char[] buffer = new char[MOST_SIGNS];
    private int length = 0;
    private final OrderReader reader = new OrderReader();

    // Rows that a call would otherwise have to make anew.
    private final Cord trial = new Cord();
    private final int[] told = new int[CORDS];

    /** Creates cords without knots, with empty slots and an empty buffer. */
    public HerdCords() {
    }

    // ---- tying

    /** Ties a number onto a cord, as a part; returns 10 and the loops tied by it, or the reason of a refusal. */
    public int tie(int cord, int number) throws IndexOutOfBoundsException, IllegalArgumentException {
        Cord chosen = cordAt(cord);
        checkNumber(number);
        history.save(herd);
        return herd.tiePart(chosen, number);
    }

    /** Ties what one cord tells onto another one, as a part; returns as tie does, 0 if there is nothing to tie. */
    public int add(int from, int to) throws IndexOutOfBoundsException, IllegalArgumentException {
        Cord source = cordAt(from);
        Cord target = cordAt(to);
        if (from == to) {
            throw new IllegalArgumentException("a cord is not added to itself");
        }
        history.save(herd);
        return herd.tieCord(source, target);
    }

    /** Lets a knot slip; returns the open knots of the place then, NONE if none was open. */
    public int slip(int cord, int place) throws IndexOutOfBoundsException {
        Cord chosen = cordAt(cord);
        checkPlace(place);
        history.save(herd);
        return herd.loosen(chosen, place);
    }

    /** Ties what a cord lacks, as no part; returns what it lacked, or 0 less the reason of a refusal. */
    public int mend(int cord) throws IndexOutOfBoundsException {
        Cord chosen = cordAt(cord);
        history.save(herd);
        return herd.tieLack(chosen);
    }

    /** Puts a new cord of the same hue in place of one; returns what the old one told. */
    public int renew(int cord) throws IndexOutOfBoundsException {
        Cord chosen = cordAt(cord);
        history.save(herd);
        return herd.replace(chosen);
    }

    /** Changes the hue of a cord; returns the hue before. */
    public int dye(int cord, int hue) throws IndexOutOfBoundsException, IllegalArgumentException {
        Cord chosen = cordAt(cord);
        checkHue(hue);
        history.save(herd);
        int before = chosen.hue;
        chosen.hue = hue;
        return before;
    }

    /** Changes the room of a place; returns the room before. */
    public int set(int value) throws IllegalArgumentException {
        if (value < LEAST_ROOM || value > MOST_ROOM) {
            throw new IllegalArgumentException("no such room");
        }
        history.save(herd);
        int before = herd.room;
        herd.room = value;
        return before;
    }

    // ---- texts, snapshots

    /** Appends a character to the buffer; returns its new length. */
    public int append(int code) throws IllegalArgumentException, IllegalStateException {
        if (code < FIRST_SIGN || code > LAST_SIGN) {
            throw new IllegalArgumentException("no such character");
        }
        if (length >= MOST_SIGNS) {
            throw new IllegalStateException("the buffer is full");
        }
        buffer[length] = (char) code;
        length++;
        return length;
    }

    /** Clears the buffer; returns the length that it had. */
    public int clearBuffer() {
        int before = length;
        length = 0;
        return before;
    }

    /** Returns the index of the first syntax error of the buffer, its length if there is none. */
    public int firstError() {
        return readBuffer();
    }

    /** Does the orders in the buffer up to the first one refused, and clears it; returns how many are done. */
    public int run() throws IllegalArgumentException {
        if (readBuffer() < length || !reader.hasWholeOrder()) {
            throw new IllegalArgumentException("the buffer does not tell orders");
        }
        history.save(herd);
        int done = 0;
        boolean refused = false;
        reader.begin();
        for (int at = 0; at <= length && !refused; at++) {
            if (at == length || buffer[at] == OrderReader.BETWEEN) {
                refused = !doOrderRead();
                done += refused ? 0 : 1;
            }
            if (at < length) {
                reader.takes(buffer[at]);
            }
        }
        length = 0;
        return done;
    }

    /** Takes a snapshot, in place of the one in the slot; returns the ties on all cords. */
    public int keep(int slot) throws IllegalArgumentException {
        checkSlot(slot);
        Herd snapshot = snapshots[slot];
        if (snapshot == null) {
            snapshot = new Herd();
            snapshots[slot] = snapshot;
        }
        snapshot.copyFrom(herd);
        return herd.ties();
    }

    /** Goes back to a snapshot, which stays; returns the ties on all cords then. */
    public int goBack(int slot) throws IllegalArgumentException, IllegalStateException {
        checkSlot(slot);
        Herd snapshot = snapshots[slot];
        if (snapshot == null) {
            throw new IllegalStateException("no snapshot in the slot");
        }
        history.save(herd);
        herd.copyFrom(snapshot);
        return herd.ties();
    }

    /** Restores the latest saved state, and drops it; returns how many are left. */
    public int undo() throws IllegalStateException {
        if (history.size == 0) {
            throw new IllegalStateException("no saved state");
        }
        history.restore(herd);
        return history.size;
    }

    // ---- looks; nothing is changed

    /** Returns something of a cord. */
    public int cordOf(int cord, int what) throws IndexOutOfBoundsException, IllegalArgumentException {
        Cord chosen = cordAt(cord);
        switch (what) {
            case 0: return chosen.told();
            case 1: return chosen.partsTogether();
            case 2: return chosen.partCount;
            case 3: return chosen.lack();
            case 4: return chosen.ties();
            case 5: return chosen.allLoops();
            case 6: return chosen.hue;
            case 7: return chosen.slips;
            default: throw new IllegalArgumentException("a cord has no such number");
        }
    }

    /** Returns something of a place. */
    public int placeOf(int cord, int place, int what) throws IndexOutOfBoundsException, IllegalArgumentException {
        Cord chosen = cordAt(cord);
        checkPlace(place);
        switch (what) {
            case 0: return chosen.knots[place];
            case 1: return chosen.loops[place];
            case 2: return chosen.open(place);
            case 3: return Math.max(0, herd.room - chosen.tiesAt(place));
            default: throw new IllegalArgumentException("a place has no such number");
        }
    }

    /** Returns a part of a cord, NONE if it has not so many. */
    public int part(int cord, int rank) throws IndexOutOfBoundsException, IllegalArgumentException {
        Cord chosen = cordAt(cord);
        if (rank < 0) {
            throw new IllegalArgumentException("ranks begin with 0");
        }
        return rank < chosen.partCount ? chosen.parts[rank] : NONE;
    }

    /** Returns a number of all cords, or of what has been done so far. */
    public int count(int what) throws IllegalArgumentException {
        switch (what) {
            case 0: return herd.told();
            case 1: return herd.ties();
            case 2: return herd.knotsTied;
            case 3: return herd.loopsTied;
            case 4: return herd.slips;
            case 5: return herd.gone;
            case 6: return herd.refused;
            case 7: return herd.lacking();
            case 8: return herd.room;
            case 9: return history.size;
            default: throw new IllegalArgumentException("there is no such number");
        }
    }

    /** Returns what the cords of a hue tell, together. */
    public int byHue(int hue) throws IllegalArgumentException {
        checkHue(hue);
        return herd.toldInHue(hue);
    }

    // ---- what would be; nothing is changed

    /** Returns the reason for which tie would be refused, 0 if it would not. */
    public int whyNot(int cord, int number) throws IndexOutOfBoundsException, IllegalArgumentException {
        Cord chosen = cordAt(cord);
        checkNumber(number);
        return chosen.refusalOfPart(number, herd.room);
    }

    /** Returns how often a number could be tied onto a cord, up to the first time that is refused. */
    public int howOften(int cord, int number) throws IndexOutOfBoundsException, IllegalArgumentException {
        Cord chosen = cordAt(cord);
        checkNumber(number);
        trial.copyFrom(chosen);
        int times = 0;
        while (times < MOST_PARTS && trial.refusalOfPart(number, herd.room) == 0) {
            trial.tieAsPart(number);
            times++;
        }
        return times;
    }

    /** Returns the mask of the fewest cords that tell a sum together, of several the least one; NONE if none do. */
    public int cordsFor(int sum, int what) throws IllegalArgumentException {
        if (sum < 1 || sum > MOST_SUM) {
            throw new IllegalArgumentException("no such sum");
        }
        if (what != 0 && what != 1) {
            throw new IllegalArgumentException("no such way to tell");
        }
        herd.tellEach(told);
        return what == 0 ? bestOfAllSets(told, sum) : bestByTrying(told, 0, sum, 0, NONE);
    }

    /** Returns the cord with the most ties, of several the lowest. */
    public int fullest() {
        return herd.fullestCord();
    }

    /** Returns the share of all knots that loops close, 0.0 without knots. */
    public double closedShare() {
        int knots = herd.knots();
        return knots == 0 ? 0.0 : (double) (10 * herd.loops()) / (double) knots;
    }

    /** Returns a hash of the whole state. */
    public long digest() {
        long hash = 3673L;
        for (int what = 0; what <= 9; what++) {
            hash = mix(hash, count(what));
        }
        for (int cord = 0; cord < CORDS; cord++) {
            hash = mixCord(hash, cord);
        }
        for (int hue = 0; hue < HUES; hue++) {
            hash = mix(hash, byHue(hue));
        }
        hash = mix(hash, cordsFor(95, 0));
        hash = mix(hash, cordsFor(95, 1));
        hash = mix(hash, cordsFor(1234, 0));
        hash = mix(hash, cordsFor(1234, 1));
        hash = mix(hash, fullest());
        hash = mix(hash, bitsOfShare(closedShare()));
        for (int slot = 0; slot < SLOTS; slot++) {
            hash = mix(hash, snapshots[slot] == null ? 0 : 1);
        }
        hash = mix(hash, length);
        for (int at = 0; at < length; at++) {
            hash = mix(hash, buffer[at]);
        }
        return hash;
    }

    // ---- what the face leans on

    private Cord cordAt(int cord) {
        if (cord < 0 || cord >= CORDS) {
            throw new IndexOutOfBoundsException("no such cord");
        }
        return herd.cords[cord];
    }

    private static void checkPlace(int place) {
        if (place < 0 || place >= PLACES) {
            throw new IndexOutOfBoundsException("no such place");
        }
    }

    private static void checkNumber(int number) {
        if (number < 1 || number > MOST_TOLD) {
            throw new IllegalArgumentException("no such number");
        }
    }

    private static void checkHue(int hue) {
        if (hue < 0 || hue >= HUES) {
            throw new IllegalArgumentException("no such hue");
        }
    }

    private static void checkSlot(int slot) {
        if (slot < 0 || slot >= SLOTS) {
            throw new IllegalArgumentException("no such slot");
        }
    }

    /** Leaves the reader behind the last character that is no error, so that it tells whether an order ends there. */
    private int readBuffer() {
        reader.begin();
        for (int at = 0; at < length; at++) {
            if (!reader.takes(buffer[at])) {
                return at;
            }
        }
        return length;
    }

    /** Does the order that the reader stands behind; false if it is refused. */
    private boolean doOrderRead() {
        int refusedBefore = herd.refused;
        Cord cord = herd.cords[reader.cord];
        if (reader.kind == OrderReader.TIE) {
            herd.tiePart(cord, reader.value);
        } else if (reader.kind == OrderReader.ADD) {
            herd.tieCord(cord, herd.cords[reader.value]);
        } else {
            herd.loosen(cord, reader.value);
        }
        return herd.refused == refusedBefore;
    }

    private static int bestOfAllSets(int[] told, int sum) {
        int best = NONE;
        for (int mask = 1; mask < 1 << CORDS; mask++) {
            if (toldBySet(told, mask) == sum) {
                best = better(mask, best);
            }
        }
        return best;
    }

    private static int toldBySet(int[] told, int mask) {
        int sum = 0;
        for (int cord = 0; cord < CORDS; cord++) {
            if ((mask >> cord & 1) == 1) {
                sum += told[cord];
            }
        }
        return sum;
    }

    /** Tries each cord from this one on, with it and without it; the depth is the number of the cord. */
    private static int bestByTrying(int[] told, int cord, int left, int mask, int best) {
        if (left == 0) {
            return better(mask, best);
        }
        if (left < 0 || cord >= CORDS) {
            return best;
        }
        int bestWith = bestByTrying(told, cord + 1, left - told[cord], mask | 1 << cord, best);
        return bestByTrying(told, cord + 1, left, mask, bestWith);
    }

    private static int better(int mask, int best) {
        if (best == NONE) {
            return mask;
        }
        int fewer = Integer.compare(Integer.bitCount(mask), Integer.bitCount(best));
        return fewer < 0 || (fewer == 0 && mask < best) ? mask : best;
    }

    private long mixCord(long before, int cord) {
        long hash = before;
        for (int what = 0; what <= 7; what++) {
            hash = mix(hash, cordOf(cord, what));
        }
        for (int place = 0; place < PLACES; place++) {
            for (int what = 0; what <= 3; what++) {
                hash = mix(hash, placeOf(cord, place, what));
            }
        }
        int parts = cordOf(cord, 2);
        for (int rank = 0; rank < parts; rank++) {
            hash = mix(hash, part(cord, rank));
        }
        hash = mix(hash, whyNot(cord, 999));
        return mix(hash, howOften(cord, 95));
    }

    private static long mix(long hash, long value) {
        return 31L * hash + value;
    }

    /**
     * The bits of a double from 0 to 1, as Double.doubleToLongBits tells them: LANGUAGE.md leaves out that function.
     * Doubling is exact, and so is what is left of the fraction.
     */
    private static long bitsOfShare(double share) {
        if (share <= 0.0) {
            return 0L;
        }
        double scaled = share;
        long exponent = 1023L;
        while (scaled < 1.0 && exponent > 1L) {
            scaled = scaled * 2.0;
            exponent--;
        }
        long fraction = (long) ((scaled - 1.0) * 4503599627370496.0);
        return (exponent << 52) + fraction;
    }

    /** One cord: its knots and loops by place, and its parts. */
    private static final class Cord {
        final int[] knots = new int[PLACES];
        final int[] loops = new int[PLACES];
        final int[] parts = new int[MOST_PARTS];
        int partCount = 0;
        int hue = 0;
        int slips = 0;

        void copyFrom(Cord other) {
            System.arraycopy(other.knots, 0, knots, 0, PLACES);
            System.arraycopy(other.loops, 0, loops, 0, PLACES);
            System.arraycopy(other.parts, 0, parts, 0, MOST_PARTS);
            partCount = other.partCount;
            hue = other.hue;
            slips = other.slips;
        }

        /** Parts beyond their count are never looked at, so they may stay. */
        void becomeNew() {
            for (int place = 0; place < PLACES; place++) {
                knots[place] = 0;
                loops[place] = 0;
            }
            partCount = 0;
            slips = 0;
        }

        int open(int place) {
            return knots[place] - 10 * loops[place];
        }

        int tiesAt(int place) {
            return knots[place] + loops[place];
        }

        int told() {
            int sum = 0;
            for (int place = PLACES - 1; place >= 0; place--) {
                sum = 10 * sum + open(place);
            }
            return sum;
        }

        int partsTogether() {
            return sumOf(parts, partCount);
        }

        int lack() {
            return partsTogether() - told();
        }

        int allKnots() {
            return sumOf(knots, PLACES);
        }

        int allLoops() {
            return sumOf(loops, PLACES);
        }

        int ties() {
            return allKnots() + allLoops();
        }

        /** The reason for which a number cannot be tied as no part, 0 if there is none. */
        int refusal(int number, int room) {
            if (told() + number > MOST_TOLD) {
                return TELLS_TOO_MUCH;
            }
            int rest = number;
            int carried = 0;
            for (int place = 0; place < PLACES; place++) {
                int knotsMore = rest % 10 + carried;
                int loopsMore = loopsFor(place, knotsMore);
                int more = knotsMore + loopsMore;
                if (more > 0 && tiesAt(place) + more > room) {
                    return NO_ROOM;
                }
                rest = rest / 10;
                carried = loopsMore;
            }
            return 0;
        }

        int refusalOfPart(int number, int room) {
            return partCount >= MOST_PARTS ? TOO_MANY_PARTS : refusal(number, room);
        }

        /** Only for a number that is not refused: then the last place has no loop to carry on. */
        void tieKnots(int number) {
            int rest = number;
            int carried = 0;
            for (int place = 0; place < PLACES; place++) {
                int knotsMore = rest % 10 + carried;
                int loopsMore = loopsFor(place, knotsMore);
                knots[place] += knotsMore;
                loops[place] += loopsMore;
                rest = rest / 10;
                carried = loopsMore;
            }
        }

        void tieAsPart(int number) {
            if (partCount < MOST_PARTS) {
                parts[partCount] = number;
                partCount++;
                tieKnots(number);
            }
        }

        private int loopsFor(int place, int knotsMore) {
            return (open(place) + knotsMore) / 10;
        }

        private static int sumOf(int[] row, int many) {
            int sum = 0;
            for (int at = 0; at < many && at < row.length; at++) {
                sum += row[at];
            }
            return sum;
        }
    }

    /** All that a snapshot or a saved state holds: the cords, the setting and what is counted so far. */
    private static final class Herd {
        final Cord[] cords = new Cord[CORDS];
        int room = FIRST_ROOM;
        int knotsTied = 0;
        int loopsTied = 0;
        int slips = 0;
        int gone = 0;
        int refused = 0;

        Herd() {
            for (int cord = 0; cord < CORDS; cord++) {
                cords[cord] = new Cord();
            }
        }

        void copyFrom(Herd other) {
            for (int cord = 0; cord < CORDS; cord++) {
                cords[cord].copyFrom(other.cords[cord]);
            }
            room = other.room;
            knotsTied = other.knotsTied;
            loopsTied = other.loopsTied;
            slips = other.slips;
            gone = other.gone;
            refused = other.refused;
        }

        int tiePart(Cord cord, int number) {
            int reason = cord.refusalOfPart(number, room);
            if (reason != 0) {
                refused++;
                return reason;
            }
            int knotsBefore = cord.allKnots();
            int loopsBefore = cord.allLoops();
            cord.tieAsPart(number);
            return TIED + countTied(cord, knotsBefore, loopsBefore);
        }

        int tieCord(Cord source, Cord target) {
            int number = source.told();
            return number == 0 ? 0 : tiePart(target, number);
        }

        int tieLack(Cord cord) {
            int lack = cord.lack();
            if (lack == 0) {
                return 0;
            }
            int reason = cord.refusal(lack, room);
            if (reason != 0) {
                refused++;
                return -reason;
            }
            int knotsBefore = cord.allKnots();
            int loopsBefore = cord.allLoops();
            cord.tieKnots(lack);
            countTied(cord, knotsBefore, loopsBefore);
            return lack;
        }

        private int countTied(Cord cord, int knotsBefore, int loopsBefore) {
            int loopsMore = cord.allLoops() - loopsBefore;
            knotsTied += cord.allKnots() - knotsBefore;
            loopsTied += loopsMore;
            return loopsMore;
        }

        int loosen(Cord cord, int place) {
            if (cord.open(place) == 0) {
                refused++;
                return NONE;
            }
            cord.knots[place]--;
            cord.slips++;
            slips++;
            return cord.open(place);
        }

        int replace(Cord cord) {
            int before = cord.told();
            gone += cord.ties();
            cord.becomeNew();
            return before;
        }

        void tellEach(int[] told) {
            for (int cord = 0; cord < CORDS && cord < told.length; cord++) {
                told[cord] = cords[cord].told();
            }
        }

        int told() {
            int sum = 0;
            for (Cord cord : cords) {
                sum += cord.told();
            }
            return sum;
        }

        int toldInHue(int hue) {
            int sum = 0;
            for (Cord cord : cords) {
                if (cord.hue == hue) {
                    sum += cord.told();
                }
            }
            return sum;
        }

        int knots() {
            int sum = 0;
            for (Cord cord : cords) {
                sum += cord.allKnots();
            }
            return sum;
        }

        int loops() {
            int sum = 0;
            for (Cord cord : cords) {
                sum += cord.allLoops();
            }
            return sum;
        }

        int ties() {
            return knots() + loops();
        }

        int lacking() {
            int found = 0;
            for (Cord cord : cords) {
                if (cord.lack() > 0) {
                    found++;
                }
            }
            return found;
        }

        int fullestCord() {
            int best = 0;
            for (int cord = 1; cord < CORDS; cord++) {
                if (cords[cord].ties() > cords[best].ties()) {
                    best = cord;
                }
            }
            return best;
        }
    }

    /** The saved states, in a ring, so that the oldest one is written over without moving the others. */
    private static final class History {
        private final Herd[] saved = new Herd[MOST_SAVED];
        private int next = 0;
        int size = 0;

        History() {
            for (int at = 0; at < MOST_SAVED; at++) {
                saved[at] = new Herd();
            }
        }

        void save(Herd herd) {
            saved[next].copyFrom(herd);
            next = (next + 1) % MOST_SAVED;
            size = Math.min(size + 1, MOST_SAVED);
        }

        void restore(Herd herd) {
            if (size > 0) {
                size--;
                next = (next + MOST_SAVED - 1) % MOST_SAVED;
                herd.copyFrom(saved[next]);
            }
        }
    }

    /** Reads orders sign by sign; behind a whole order it holds its cord, its kind and its value. */
    private static final class OrderReader {
        static final char TIE = '+';
        static final char ADD = '>';
        static final char SLIP = '~';
        static final char BETWEEN = ';';

        private static final int MOST_DIGITS = 6;
        private static final int AT_CORD = 0;
        private static final int AT_KIND = 1;
        private static final int AT_VALUE = 2;
        private static final int BEHIND_VALUE = 3;

        private int step = AT_CORD;
        private int digits = 0;
        int cord = 0;
        char kind = TIE;
        int value = 0;

        void begin() {
            step = AT_CORD;
        }

        boolean hasWholeOrder() {
            return step == BEHIND_VALUE;
        }

        /** Goes on by a sign; false, and nothing changed, if no orders go on by it. */
        boolean takes(char sign) {
            switch (step) {
                case AT_CORD: return takesCord(sign - '0');
                case AT_KIND: return takesKind(sign);
                case AT_VALUE: return takesValue(sign - '0');
                default: return sign == BETWEEN ? takesBetween() : takesDigit(sign - '0');
            }
        }

        private boolean takesCord(int digit) {
            if (digit < 0 || digit >= CORDS) {
                return false;
            }
            cord = digit;
            step = AT_KIND;
            return true;
        }

        private boolean takesKind(char sign) {
            if (sign != TIE && sign != ADD && sign != SLIP) {
                return false;
            }
            kind = sign;
            step = AT_VALUE;
            return true;
        }

        private boolean takesValue(int digit) {
            if (!mayBeginValue(digit)) {
                return false;
            }
            value = digit;
            digits = 1;
            step = BEHIND_VALUE;
            return true;
        }

        private boolean mayBeginValue(int digit) {
            if (kind == TIE) {
                return digit >= 1 && digit <= 9;
            }
            if (kind == ADD) {
                return digit >= 0 && digit < CORDS && digit != cord;
            }
            return digit >= 0 && digit < PLACES;
        }

        private boolean takesBetween() {
            step = AT_CORD;
            return true;
        }

        private boolean takesDigit(int digit) {
            if (kind != TIE || digits >= MOST_DIGITS || digit < 0 || digit > 9) {
                return false;
            }
            value = 10 * value + digit;
            digits++;
            return true;
        }
    }
}
