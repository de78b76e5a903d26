/** Counts answers that are not as due, prints them, and ends a test by them. */
final class Check {
    private static int wrong = 0;

    private Check() {
    }

    static void same(String what, long got, long due) {
        if (got != due) {
            fail(what + " answered " + got + ", due is " + due);
        }
    }

    static void sameDouble(String what, double got, double due) {
        if (Double.doubleToRawLongBits(got) != Double.doubleToRawLongBits(due)) {
            fail(what + " answered " + got + ", due is " + due);
        }
    }

    /** The very class is due, as a subclass would be another exception than the document names. */
    static void isThrown(String what, Class<? extends RuntimeException> due, Runnable call) {
        try {
            call.run();
        } catch (RuntimeException e) {
            if (e.getClass() != due) {
                fail(what + " threw " + e.getClass() + ", due is " + due);
            }
            return;
        }
        fail(what + " threw nothing, due is " + due);
    }

    /** The exception is due, and that nothing is changed by the call. */
    static void refuses(String what, HerdCords x, Class<? extends RuntimeException> due, Runnable call) {
        long before = x.digest();
        isThrown(what, due, call);
        same(what + ": the digest behind it", x.digest(), before);
    }

    static void fail(String text) {
        wrong++;
        System.out.println(text);
    }

    static void end() {
        System.out.println(wrong == 0 ? "all answers are as due" : wrong + " answers are not as due");
        if (wrong != 0) {
            System.exit(1);
        }
    }

    static final Class<IndexOutOfBoundsException> INDEX = IndexOutOfBoundsException.class;
    static final Class<IllegalArgumentException> ARGUMENT = IllegalArgumentException.class;
    static final Class<IllegalStateException> STATE = IllegalStateException.class;

    static void type(HerdCords x, String text) {
        for (int at = 0; at < text.length(); at++) {
            x.append(text.charAt(at));
        }
    }

    /** Clears the buffer first, so that texts may be typed one after the other. */
    static void retype(HerdCords x, String text) {
        x.clearBuffer();
        type(x, text);
    }
}
