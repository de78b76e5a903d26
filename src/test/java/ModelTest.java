import java.util.TreeMap;
import java.util.function.LongSupplier;

/** Runs of mixed calls, the same ones each time, answered by the class and by the model alike. */
public final class ModelTest {
    private static final int RUNS = 300;
    private static final int MOST_CALLS = 512;
    /** A step may be of so many calls, with the digest behind it; a run ends before one could go beyond the 512th. */
    private static final int CALLS_OF_A_STEP = 70;
    private static final int[] NUMBERS = {1, 2, 5, 9, 10, 11, 19, 90, 95, 99, 100, 500, 909, 999, 1000, 1234, 9999, 10000,
        50000, 90000, 99999, 100000, 300000, 500000, 900000, 999998, 999999};
    private static final String[] NAMES = {"tie", "add", "slip", "mend", "renew", "dye", "set", "type", "clearBuffer",
        "firstError", "run", "keep", "goBack", "undo", "cordOf", "placeOf", "part", "count", "byHue", "whyNot", "howOften",
        "cordsFor", "fullest", "closedShare"};
    /** How often each of the names is chosen; far more ties than new cords, or no place would ever become full. */
    private static final int[] WEIGHTS = {26, 8, 12, 6, 1, 2, 2, 4, 1, 1, 5, 1, 1, 2, 2, 2, 2, 2, 2, 3, 3, 4, 1, 1};

    /** Kinds of runs: on all cords, with numbers at edges, with small ones on two cords; and, else, mixed on three. */
    private static final int SPREAD = 0;
    private static final int CHOSEN = 2;
    private static final int SMALL = 3;

    private final TreeMap<String, Integer> answered = new TreeMap<>();
    private long seed;
    private HerdCords x;
    private Model model;
    private int kind;
    private int calls;

    public static void main(String[] args) {
        ModelTest test = new ModelTest();
        for (int run = 0; run < RUNS; run++) {
            test.oneRun(run);
        }
        test.allKindsWereMet();
        Check.end();
    }

    private int below(int bound) {
        seed = seed * 6364136223846793005L + 1442695040888963407L;
        return (int) ((seed >>> 33) % bound);
    }

    private void oneRun(int run) {
        seed = 77 + run;
        kind = run % 4;
        x = new HerdCords();
        model = new Model();
        calls = 0;
        for (int step = 0; calls + CALLS_OF_A_STEP <= MOST_CALLS; step++) {
            String what = oneStep();
            calls++;
            if (x.digest() != model.digest()) {
                Check.fail("run " + run + ", step " + step + ": another digest behind " + what);
                return;
            }
        }
    }

    private String oneStep() {
        int total = 0;
        for (int weight : WEIGHTS) {
            total += weight;
        }
        int pick = below(total);
        int at = 0;
        while (pick >= WEIGHTS[at]) {
            pick -= WEIGHTS[at];
            at++;
        }
        call(NAMES[at]);
        return NAMES[at];
    }

    private int cord() {
        return below(30) == 0 ? (below(2) == 0 ? -1 : 7) : below(kind == SPREAD ? 7 : kind == SMALL ? 2 : 3);
    }

    private int upTo(int most) {
        return below(most + 3) - 1;
    }

    private int number() {
        if (below(30) == 0) {
            return below(2) == 0 ? 0 : 1000000;
        }
        if (kind == SMALL) {
            return 1 + below(below(8) == 0 ? 99 : 4);
        }
        return kind == CHOSEN ? NUMBERS[below(NUMBERS.length)] : 1 + below(below(2) == 0 ? 99 : 30000);
    }

    private void call(String name) {
        int a = cord();
        int b = cord();
        int number = number();
        int small = upTo(8);
        switch (name) {
            case "tie" -> same(name, () -> x.tie(a, number), () -> model.tie(a, number));
            case "add" -> same(name, () -> x.add(a, b), () -> model.add(a, b));
            case "slip" -> slip(a, upTo(5));
            case "mend" -> same(name, () -> x.mend(a), () -> model.mend(a));
            case "renew" -> same(name, () -> x.renew(a), () -> model.renew(a));
            case "dye" -> same(name, () -> x.dye(a, small), () -> model.dye(a, small));
            case "set" -> room();
            case "type" -> type();
            case "clearBuffer" -> same(name, () -> x.clearBuffer(), () -> model.clearBuffer());
            case "firstError" -> same(name, () -> x.firstError(), () -> model.firstError());
            case "run" -> same(name, () -> x.run(), () -> model.run());
            case "undo" -> same(name, () -> x.undo(), () -> model.undo());
            case "fullest" -> same(name, () -> x.fullest(), () -> model.fullest());
            default -> look(name, a, number, small);
        }
    }

    private void look(String name, int a, int number, int small) {
        int slot = upTo(1);
        int what = upTo(3);
        switch (name) {
            case "keep" -> same(name, () -> x.keep(slot), () -> model.keep(slot));
            case "goBack" -> same(name, () -> x.goBack(slot), () -> model.goBack(slot));
            case "cordOf" -> same(name, () -> x.cordOf(a, small), () -> model.cordOf(a, small));
            case "placeOf" -> same(name, () -> x.placeOf(a, small, what), () -> model.placeOf(a, small, what));
            case "part" -> same(name, () -> x.part(a, small), () -> model.part(a, small));
            case "count" -> same(name, () -> x.count(small), () -> model.count(small));
            case "byHue" -> same(name, () -> x.byHue(small), () -> model.byHue(small));
            case "whyNot" -> same(name, () -> x.whyNot(a, number), () -> model.whyNot(a, number));
            case "howOften" -> same(name, () -> x.howOften(a, number), () -> model.howOften(a, number));
            case "cordsFor" -> sums(number);
            default -> same(name, () -> Double.doubleToRawLongBits(x.closedShare()),
                () -> Double.doubleToRawLongBits(model.closedShare()));
        }
    }

    private void slip(int cord, int place) {
        int times = 1 + below(3);
        for (int time = 0; time < times; time++) {
            same("slip", () -> x.slip(cord, place), () -> model.slip(cord, place));
        }
    }

    private void room() {
        int value = below(4) == 0 ? 18 + below(84) : 20 + below(20);
        same("set", () -> x.set(value), () -> model.set(value));
    }

    /** Half of the sums are those of a set of cords, as others would seldom be found. */
    private void sums(int number) {
        int sum = number;
        if (below(2) == 0) {
            sum = 0;
            int mask = below(128);
            for (int cord = 0; cord < 7; cord++) {
                sum += (mask & 1 << cord) != 0 ? model.cordOf(cord, 0) : 0;
            }
        }
        int due = sum;
        int what = upTo(1);
        same("cordsFor", () -> x.cordsFor(due, what), () -> model.cordsFor(due, what));
    }

    private void type() {
        if (below(kind == CHOSEN ? 2 : 4) != 0) {
            same("clearBuffer", () -> x.clearBuffer(), () -> model.clearBuffer());
        }
        StringBuilder text = new StringBuilder();
        int orders = 1 + below(4);
        for (int order = 0; order < orders; order++) {
            text.append(order > 0 ? ";" : "").append(order());
        }
        if (below(5) == 0) {
            text.setCharAt(below(text.length()), "0123456789+>~;".charAt(below(14)));
        }
        for (int at = 0; at < text.length(); at++) {
            int code = below(100) == 0 ? 30 + below(100) : text.charAt(at);
            same("append", () -> x.append(code), () -> model.append(code));
        }
        same("firstError", () -> x.firstError(), () -> model.firstError());
    }

    private String order() {
        int cord = below(7);
        return switch (below(3)) {
            case 0 -> cord + "+" + (1 + below(below(2) == 0 ? 99 : 999999));
            case 1 -> cord + ">" + (cord + 1 + below(6)) % 7;
            default -> cord + "~" + below(6);
        };
    }

    private void same(String name, LongSupplier call, LongSupplier due) {
        calls++;
        String got = outcome(call);
        String want = outcome(due);
        if (!got.equals(want)) {
            Check.fail(name + " answered " + got + ", due is " + want);
        }
        answered.merge(name + " " + want, 1, Integer::sum);
    }

    private static String outcome(LongSupplier call) {
        try {
            return "" + call.getAsLong();
        } catch (RuntimeException e) {
            return e.getClass().getSimpleName();
        }
    }

    /** Runs that never meet an answer would say nothing of it. */
    private void allKindsWereMet() {
        String[] due = {"tie 1", "tie 2", "tie 3", "tie 10", "tie 15", "add 0", "add 1", "add 2", "add 3", "add 12",
            "slip -1", "slip 0", "slip 8", "mend 0", "mend 1", "mend -1", "mend -2", "run 0", "run 1", "run 2", "run 3",
            "run 4", "run IllegalArgumentException", "append IllegalStateException", "goBack IllegalStateException",
            "undo IllegalStateException", "undo 5", "whyNot 0", "whyNot 1", "whyNot 2", "whyNot 3", "howOften 0",
            "howOften 16", "cordsFor -1", "cordsFor 31", "fullest 6"};
        for (String answer : due) {
            if (!answered.containsKey(answer)) {
                Check.fail("no run met " + answer);
            }
        }
    }
}
