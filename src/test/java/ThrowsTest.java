import java.util.Arrays;
import java.util.NoSuchElementException;
import java.util.function.Consumer;

/**
 * "A call that throws changes nothing": two objects live through the same calls, one of them through
 * a call that throws as well; from there on they answer alike, whatever is called.
 */
public final class ThrowsTest {
    private final Checks checks = new Checks();

    public static void main(String[] args) {
        ThrowsTest test = new ThrowsTest();
        test.put();
        test.cut();
        test.unpackOfAnObjectInUse();
        test.unpackBetweenTwoPackings();
        test.throwsAgain();
        test.checks.end("ThrowsTest");
    }

    /** An object with a source, a packing, a result, and packed bytes that are neither. */
    private static NarrowingPacker inUse(int[] packed) {
        NarrowingPacker x = new NarrowingPacker(2);
        Checks.typeAll(x, "a result before");
        x.pack();
        x.unpack();
        x.wipe();
        Checks.typeAll(x, "abcabcabcabd");
        x.pack();
        x.cut(0);
        Checks.addAll(x, packed);
        x.type('e');
        return x;
    }

    private void changesNothing(String call, Class<?> due, int[] packed, Consumer<NarrowingPacker> run) {
        NarrowingPacker x = inUse(packed);
        NarrowingPacker twin = inUse(packed);
        checks.same(call, Checks.outcome(() -> run.accept(x)), due.getSimpleName());
        answerAlike(call, x, twin);
    }

    private void answerAlike(String call, NarrowingPacker x, NarrowingPacker twin) {
        alike(call, x, twin);
        checks.same("add() behind " + call, x.add(3), twin.add(3));
        checks.same("type() behind " + call, x.type('f'), twin.type('f'));
        alike(call + ", add() and type()", x, twin);
        checks.same("unpack() behind " + call,
                Checks.outcome(x::unpack), Checks.outcome(twin::unpack));
        alike(call + " and unpack()", x, twin);
        checks.same("pack() behind " + call, x.pack(), twin.pack());
        alike(call + " and pack()", x, twin);
        checks.same("unpack() of it", x.unpack(), twin.unpack());
        alike(call + ", pack() and unpack()", x, twin);
        checks.same("the result", x.told(), 14);
        checks.same("wipe() behind " + call, x.wipe(), twin.wipe());
    }

    private void alike(String call, NarrowingPacker x, NarrowingPacker twin) {
        checks.same("everything behind " + call, Checks.snapshot(x), Checks.snapshot(twin));
    }

    private void put() {
        int[] packed = {5, 6, 7};
        for (int i : new int[] {-1, 3, 199, 200}) {
            changesNothing("put(" + i + ", 1)", IndexOutOfBoundsException.class, packed,
                    x -> x.put(i, 1));
            changesNothing("put(" + i + ", -1)", IndexOutOfBoundsException.class, packed,
                    x -> x.put(i, -1));
        }
        for (int b : new int[] {-1, 256}) {
            for (int i = 0; i < 3; i++) {
                int place = i;
                changesNothing("put(" + i + ", " + b + ")", IllegalArgumentException.class, packed,
                        x -> x.put(place, b));
            }
        }
        changesNothing("put(0, 1) of none", IndexOutOfBoundsException.class, new int[0],
                x -> x.put(0, 1));
    }

    private void cut() {
        for (int n : new int[] {-1, Integer.MIN_VALUE}) {
            changesNothing("cut(" + n + ")", IllegalArgumentException.class, new int[] {5, 6, 7},
                    x -> x.cut(n));
            changesNothing("cut(" + n + ") of none", IllegalArgumentException.class, new int[0],
                    x -> x.cut(n));
        }
    }

    private void refused(Class<?> due, int[] packed) {
        changesNothing("unpack() of " + Arrays.toString(packed), due, packed, x -> x.unpack());
    }

    private static Script some() {
        return new Script().literal('p').literal('q').literal('q').match(4, 2).echo(1, 3);
    }

    /** Each throw of unpack(), also behind packets that were told already. */
    private void unpackOfAnObjectInUse() {
        refused(NoSuchElementException.class, new int[0]);
        refused(NoSuchElementException.class, new int[] {1, 2, 3});
        refused(NoSuchElementException.class, some().bytes());
        refused(IllegalArgumentException.class, new int[] {255, 255, 255, 255, 1});
        refused(IllegalArgumentException.class, new int[] {131, 191, 252, 0, 0, 0});
        refused(IllegalArgumentException.class, new int[] {131, 191, 252, 0, 1});
        int[] whole = some().end().bytes();
        refused(IllegalArgumentException.class, Arrays.copyOf(whole, whole.length + 1));
        refused(IndexOutOfBoundsException.class, some().matchStart(3, 14).bytes());
        refused(IndexOutOfBoundsException.class, some().match(2, 11).bytes());
        refused(IndexOutOfBoundsException.class, new Script().shortly().bytes());
        refused(IllegalStateException.class, some().echo(0, 111).bytes());
        refused(IllegalStateException.class, some().match(145, 1).bytes());
    }

    /** What unpack() had told and learned before it threw is not in what a later call makes. */
    private void unpackBetweenTwoPackings() {
        NarrowingPacker x = inUse(some().bytes());
        NarrowingPacker fresh = new NarrowingPacker(2);
        Checks.typeAll(fresh, "abcabcabcabde");
        checks.same("unpack()", Checks.outcome(x::unpack), "NoSuchElementException");
        checks.same("pack()", x.pack(), fresh.pack());
        checks.same("the packed bytes", Arrays.toString(Checks.packedBytes(x)),
                Arrays.toString(Checks.packedBytes(fresh)));
        checks.same("the packets", Checks.packetsOf(x), Checks.packetsOf(fresh));
        checks.same("unpack()", x.unpack(), 13);
        checks.same("byteAt(0)", x.byteAt(0), (int) 'a');
    }

    /** The same call throws the same again. */
    private void throwsAgain() {
        NarrowingPacker x = inUse(some().match(2, 11).bytes());
        for (int k = 0; k < 5; k++) {
            checks.refused("unpack()", IndexOutOfBoundsException.class, x, x::unpack);
            checks.refused("put(500, 1)", IndexOutOfBoundsException.class, x, () -> x.put(500, 1));
            checks.refused("put(0, 500)", IllegalArgumentException.class, x, () -> x.put(0, 500));
            checks.refused("cut(-1)", IllegalArgumentException.class, x, () -> x.cut(-1));
        }
        checks.same("told()", x.told(), 15);
    }
}
