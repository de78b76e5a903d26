import com.sun.management.ThreadMXBean;
import java.lang.management.ManagementFactory;
import java.lang.reflect.Array;
import java.lang.reflect.Field;
import java.lang.reflect.Modifier;
import java.util.ArrayDeque;
import java.util.Collections;
import java.util.IdentityHashMap;
import java.util.Set;
import java.util.function.Consumer;

/** How much of the room a run takes: what an object holds, and that its calls make nothing anew but a first snapshot. */
public final class RoomTest {
    private static final int MOST_CALLS = 512;
    private static final int MOST_OBJECTS = 400;
    private static final int MOST_ELEMENTS = 4000;
    private static final int TURNS = 40;

    private final Set<Object> objects = Collections.newSetFromMap(new IdentityHashMap<>());
    private long elements = 0;

    public static void main(String[] args) throws ReflectiveOperationException {
        heldByAnObject();
        madeByCalls();
        Check.end();
    }

    private static void heldByAnObject() throws ReflectiveOperationException {
        HerdCords x = new HerdCords();
        RoomTest fresh = new RoomTest();
        fresh.count(x);
        atMost("objects of a new one", fresh.objects.size(), MOST_OBJECTS);
        atMost("fields and elements of a new one", fresh.elements, MOST_ELEMENTS);
        for (int call = 0; call < MOST_CALLS; call++) {
            mixedCall(x, call);
        }
        RoomTest used = new RoomTest();
        used.count(x);
        atMost("objects behind all calls", used.objects.size(), MOST_OBJECTS);
        atMost("fields and elements behind all calls", used.elements, MOST_ELEMENTS);
    }

    private static void mixedCall(HerdCords x, int call) {
        switch (call % 6) {
            case 0 -> x.tie(call % 7, 1 + call);
            case 1 -> x.keep(call % 2);
            case 2 -> x.renew((call + 3) % 7);
            case 3 -> x.goBack(call / 6 > 1 ? call % 2 : 1);
            case 4 -> x.undo();
            default -> x.digest();
        }
    }

    private static void madeByCalls() {
        madeBy("tie", x -> x.tie(5, 123));
        madeBy("add", x -> x.add(3, 5));
        madeBy("slip", x -> x.slip(0, 0));
        madeBy("mend", x -> x.mend(3));
        madeBy("renew", x -> x.renew(3));
        madeBy("dye", x -> x.dye(3, 1));
        madeBy("set", x -> x.set(21));
        madeBy("append, firstError, run and clearBuffer", RoomTest::typeAndRun);
        madeBy("keep", x -> x.keep(1));
        madeBy("goBack", x -> x.goBack(0));
        madeBy("set and undo", x -> {
            x.set(21);
            x.undo();
        });
        madeBy("looks", RoomTest::looks);
        madeBy("whyNot", x -> x.whyNot(3, 999));
        madeBy("howOften", x -> x.howOften(3, 1));
        madeBy("cordsFor by all sets", x -> x.cordsFor(70, 0));
        madeBy("cordsFor by trying", x -> x.cordsFor(70, 1));
        madeBy("fullest", x -> x.fullest());
        madeBy("closedShare", x -> x.closedShare());
        madeBy("digest", x -> x.digest());
    }

    private static void typeAndRun(HerdCords x) {
        x.clearBuffer();
        x.append('4');
        x.append('+');
        x.append('7');
        x.firstError();
        x.run();
    }

    private static void looks(HerdCords x) {
        x.cordOf(3, 0);
        x.placeOf(3, 0, 3);
        x.part(3, 0);
        x.count(0);
        x.byHue(0);
    }

    /** The least of all turns, as the machine makes objects of its own when it meets a call for the first time. */
    private static void madeBy(String what, Consumer<HerdCords> call) {
        ThreadMXBean thread = (ThreadMXBean) ManagementFactory.getThreadMXBean();
        HerdCords x = Made.mixed();
        long made = Long.MAX_VALUE;
        for (int turn = 0; turn < TURNS; turn++) {
            long before = thread.getCurrentThreadAllocatedBytes();
            call.accept(x);
            made = Math.min(made, thread.getCurrentThreadAllocatedBytes() - before);
        }
        atMost("bytes made by " + what, made, 0);
    }

    private static void atMost(String what, long got, long most) {
        if (got > most) {
            Check.fail(what + " are " + got + ", at most " + most + " are due");
        }
    }

    /** All that can be reached from the object, the library's own objects left out. */
    private void count(Object first) throws ReflectiveOperationException {
        ArrayDeque<Object> open = new ArrayDeque<>();
        meet(first, open);
        while (!open.isEmpty()) {
            Object next = open.removeFirst();
            if (next.getClass().isArray()) {
                elements += Array.getLength(next);
                for (int at = 0; at < Array.getLength(next) && next instanceof Object[]; at++) {
                    meet(Array.get(next, at), open);
                }
            } else {
                countFields(next, open);
            }
        }
    }

    private void countFields(Object next, ArrayDeque<Object> open) throws ReflectiveOperationException {
        for (Field field : next.getClass().getDeclaredFields()) {
            if (!Modifier.isStatic(field.getModifiers())) {
                elements++;
                field.setAccessible(true);
                if (!field.getType().isPrimitive()) {
                    meet(field.get(next), open);
                }
            }
        }
    }

    private void meet(Object next, ArrayDeque<Object> open) {
        if (next != null && objects.add(next)) {
            open.addLast(next);
        }
    }
}
