import com.sun.management.ThreadMXBean;
import java.lang.management.ManagementFactory;
import java.lang.reflect.Field;
import java.lang.reflect.Modifier;
import java.util.Arrays;
import java.util.Collections;
import java.util.IdentityHashMap;
import java.util.NoSuchElementException;
import java.util.Set;

/** "An object is used for at most 512 calls": the last of them is answered like the first. */
public final class CallsTest {
    private static final int CALLS = 512;

    private final Checks checks = new Checks();

    public static void main(String[] args) throws IllegalAccessException {
        CallsTest test = new CallsTest();
        test.packAndUnpackToTheLastCall();
        test.eachTimeAnotherSource();
        test.throwsToTheLastCall();
        test.refusalsToTheLastCall();
        test.objectsShareNothing();
        test.callsMakeNoObjects();
        test.oneObjectIsSmall();
        test.checks.end("CallsTest");
    }

    /** 121 calls, 135 times two more, told() and 120 times byteAt(): 512. */
    private void packAndUnpackToTheLastCall() {
        int[] source = new int[120];
        Arrays.setAll(source, k -> k * k % 251);
        NarrowingPacker x = new NarrowingPacker(16);
        for (int b : source) {
            x.type(b);
        }
        int size = x.pack();
        for (int k = 0; k < 135; k++) {
            checks.same("unpack()", x.unpack(), 120);
            checks.same("pack()", x.pack(), size);
        }
        checks.same("the result",
                Arrays.toString(Checks.resultBytes(x)), Arrays.toString(source));
    }

    /** 126 times four calls, then eight looks at what the last of them made: 512. */
    private void eachTimeAnotherSource() {
        NarrowingPacker x = new NarrowingPacker(4);
        for (int b = 0; b < 126; b++) {
            checks.same("type(" + b + ")", x.type(b), true);
            checks.same("pack()", x.pack(), new Script().literal(b).end().bytes().length);
            checks.same("unpack()", x.unpack(), 1);
            checks.same("wipe()", x.wipe(), 1);
        }
        int[] due = new Script().literal(125).end().bytes();
        checks.same("six packed bytes", due.length, 6);
        checks.same("the packed bytes",
                Arrays.toString(Checks.packedBytes(x)), Arrays.toString(due));
        checks.same("byteAt(0)", x.byteAt(0), 125);
    }

    private void throwsToTheLastCall() {
        NarrowingPacker x = new NarrowingPacker(4);
        for (int calls = 1; calls < CALLS - 1; calls++) {
            checks.same("unpack(), call " + calls, Checks.outcome(x::unpack),
                    NoSuchElementException.class.getSimpleName());
        }
        checks.same("pack(), call 511", x.pack(), 5);
        checks.same("unpack(), call 512", x.unpack(), 0);
    }

    /** A full source and full packed bytes take nothing more, as often as it is tried. */
    private void refusalsToTheLastCall() {
        NarrowingPacker x = new NarrowingPacker(4);
        for (int calls = 1; calls <= CALLS; calls++) {
            checks.same("type(), call " + calls, x.type(calls % 256), calls <= 120);
        }
        NarrowingPacker y = new NarrowingPacker(4);
        for (int calls = 1; calls <= CALLS; calls++) {
            checks.same("add(), call " + calls, y.add(calls % 256), calls <= 200);
        }
    }

    private void objectsShareNothing() {
        NarrowingPacker x = new NarrowingPacker(1);
        NarrowingPacker y = new NarrowingPacker(16);
        Checks.typeAll(x, "abcxabyabc");
        Checks.typeAll(y, "abcxabyabc");
        x.pack();
        String packed = Arrays.toString(Checks.packedBytes(x));
        y.pack();
        y.unpack();
        y.wipe();
        y.pack();
        y.put(0, 1);
        y.cut(2);
        checks.same("the bytes of the other one", Arrays.toString(Checks.packedBytes(x)), packed);
        checks.same("its packets", Checks.packetsOf(x), "L97 L98 L99 L120 M2@4 L121 M2@3 L99");
        checks.same("its result", x.told(), 0);
        checks.same("its source", x.wipe(), 10);
    }

    /** All calls live in one room: what is made with the object is all that is ever made. */
    private void callsMakeNoObjects() {
        if (!(ManagementFactory.getThreadMXBean() instanceof ThreadMXBean threads)) {
            return;
        }
        NarrowingPacker x = new NarrowingPacker(16);
        for (int k = 0; k < 120; k++) {
            x.type(k * k % 251);
        }
        long thread = Thread.currentThread().getId();
        x.pack();
        x.unpack();
        long before = threads.getThreadAllocatedBytes(thread);
        for (int k = 0; k < 190; k++) {
            x.pack();
            x.unpack();
        }
        long made = threads.getThreadAllocatedBytes(thread) - before;
        checks.yes("380 calls made " + made + " bytes of objects", made < 10_000);
    }

    /** The room holds some 600,000 objects and 7.3 million fields and elements. */
    private void oneObjectIsSmall() throws IllegalAccessException {
        Set<Object> found = Collections.newSetFromMap(new IdentityHashMap<>());
        int fields = fieldsFrom(new NarrowingPacker(16), found);
        checks.yes("objects of one packer: " + found.size(), found.size() < 60);
        checks.yes("fields and elements of one packer: " + fields, fields < 12_000);
    }

    /** The fields and elements of an object and of all that it holds and that is not found yet. */
    private static int fieldsFrom(Object x, Set<Object> found) throws IllegalAccessException {
        if (x == null || !found.add(x)) {
            return 0;
        }
        if (x instanceof int[] row) {
            return row.length;
        }
        int fields = 0;
        for (Field f : x.getClass().getDeclaredFields()) {
            if (!Modifier.isStatic(f.getModifiers())) {
                f.setAccessible(true);
                fields += 1 + (f.getType().isPrimitive() ? 0 : fieldsFrom(f.get(x), found));
            }
        }
        return fields;
    }
}
