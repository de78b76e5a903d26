import java.util.ArrayList;
import java.util.List;
import java.util.function.Consumer;
import java.util.function.Supplier;

/** Counts answers that are not as due, prints them, and ends a test by them. */
final class Check {
    private static int wrong = 0;
    private static String about = "";

    private Check() {
    }

    /** The checks behind it are about this sentence of the document, which is printed with each that fails. */
    static void sentence(String section, String words) {
        Sentences.said(section, words);
        about = section + ", \"" + words + "\": ";
    }

    /** The checks behind it are about no sentence alone. */
    static void noSentence() {
        about = "";
    }

    static void same(String what, long got, long due) {
        if (got != due) {
            fail(what + " answered " + got + ", due is " + due);
        }
    }

    static void sameDouble(String what, double got, double due) {
        if (Double.doubleToRawLongBits(got) != Double.doubleToRawLongBits(due)) {
            fail(what + " answered " + got + ", due is " + due);
        }
    }

    /** The very class is due, as a subclass would be another exception than the document names. */
    static void isThrown(String what, Class<? extends RuntimeException> due, Runnable call) {
        try {
            call.run();
        } catch (RuntimeException e) {
            if (e.getClass() != due) {
                fail(what + " threw " + e.getClass() + ", due is " + due);
            }
            return;
        }
        fail(what + " threw nothing, due is " + due);
    }

    /** The exception is due, and that nothing is changed by the call. */
    static void refuses(String what, HerdCords x, Class<? extends RuntimeException> due, Runnable call) {
        long before = x.digest();
        isThrown(what, due, call);
        same(what + ": the digest behind it", x.digest(), before);
    }

    /** The exception is due on an object made so, and that nothing at all is changed by the call. */
    static void refuses(String what, Supplier<HerdCords> made, Class<? extends RuntimeException> due,
            Consumer<HerdCords> call) {
        HerdCords x = made.get();
        isThrown(what, due, () -> call.accept(x));
        sameWhole(what, x, made.get());
    }

    /** Nothing at all is changed by the call on an object made so. */
    static void changesNothing(String what, Supplier<HerdCords> made, Consumer<HerdCords> call) {
        HerdCords x = made.get();
        call.accept(x);
        sameWhole(what, x, made.get());
    }

    /** The call saves the state from before it, so that undo leads back; the object has room for a saved state yet. */
    static void undoable(String what, Supplier<HerdCords> made, Consumer<HerdCords> call) {
        HerdCords x = made.get();
        HerdCords twin = made.get();
        int saved = x.count(9);
        call.accept(x);
        same(what + ": saved states", x.count(9), saved + 1);
        same(what + ": undone", x.undo(), saved);
        sameWhole(what + " and undo", x, twin);
    }

    /** Both are used up by it: what is saved and kept can only be told by going back to it. */
    static void sameWhole(String what, HerdCords x, HerdCords due) {
        List<Long> got = wholeOf(x);
        List<Long> want = wholeOf(due);
        if (!got.equals(want)) {
            fail(what + " changed something: digests " + got + ", due are " + want);
        }
    }

    private static List<Long> wholeOf(HerdCords x) {
        List<Long> all = new ArrayList<>();
        all.add(x.digest());
        for (int left = x.count(9); left > 0; left--) {
            x.undo();
            all.add(x.digest());
        }
        for (int slot = 0; slot <= 1; slot++) {
            try {
                x.goBack(slot);
                all.add(x.digest());
            } catch (IllegalStateException e) {
                all.add(-1L);
            }
        }
        return all;
    }

    static void fail(String text) {
        wrong++;
        System.out.println(about + text);
    }

    static void end() {
        System.out.println(wrong == 0 ? "all answers are as due" : wrong + " answers are not as due");
        if (wrong != 0) {
            System.exit(1);
        }
    }

    static final Class<IndexOutOfBoundsException> INDEX = IndexOutOfBoundsException.class;
    static final Class<IllegalArgumentException> ARGUMENT = IllegalArgumentException.class;
    static final Class<IllegalStateException> STATE = IllegalStateException.class;

    static void type(HerdCords x, String text) {
        for (int at = 0; at < text.length(); at++) {
            x.append(text.charAt(at));
        }
    }

    /** Clears the buffer first, so that texts may be typed one after the other. */
    static void retype(HerdCords x, String text) {
        x.clearBuffer();
        type(x, text);
    }
}
