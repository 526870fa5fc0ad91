import java.util.Arrays;
import java.util.NoSuchElementException;

/** Promises 13 (unpack), 14 (told) and 15 (byteAt), with what throws and in which order. */
public final class UnpackTest {
    private static final Class<?> MISSING = NoSuchElementException.class;
    private static final Class<?> WRONG = IllegalArgumentException.class;
    private static final Class<?> TOO_FAR = IndexOutOfBoundsException.class;
    private static final Class<?> TOO_MANY = IllegalStateException.class;

    private final Checks checks = new Checks();

    public static void main(String[] args) {
        UnpackTest test = new UnpackTest();
        test.resultStaysUntilTheNext();
        test.packetsThatNoPackingMakes();
        test.missingBytes();
        test.firstFourBytes();
        test.behindEnd();
        test.slots();
        test.distances();
        test.fullResults();
        test.orderOfThrows();
        test.checks.end("UnpackTest");
    }

    private void told(String what, Script script) {
        NarrowingPacker x = new NarrowingPacker(4);
        Checks.addAll(x, script.bytes());
        int[] due = script.toldBytes();
        int size = x.size();
        checks.same("unpack() of " + what, x.unpack(), due.length);
        checks.same("told() of " + what, x.told(), due.length);
        checks.same("bytes of " + what,
                Arrays.toString(Checks.resultBytes(x)), Arrays.toString(due));
        checks.same("byteAt(told())", x.byteAt(due.length), -1);
        checks.same("size() behind " + what, x.size(), size);
        checks.same("packets() behind " + what, x.packets(), 0);
    }

    /** What is thrown leaves an earlier result, and all else, as it was. */
    private void refused(String what, Class<?> due, int[] bytes) {
        NarrowingPacker x = new NarrowingPacker(4);
        Checks.typeAll(x, "a result before");
        x.pack();
        x.unpack();
        x.cut(0);
        Checks.addAll(x, bytes);
        checks.refused("unpack() of " + what, due, x, x::unpack);
        checks.same("told()", x.told(), 15);
        x.pack();
        checks.same("unpack() behind it", x.unpack(), 15);
    }

    private static Script literals(int n) {
        Script script = new Script();
        for (int k = 0; k < n; k++) {
            script.literal(k * 37 % 256);
        }
        return script;
    }

    /** Promises 14 and 15. */
    private void resultStaysUntilTheNext() {
        NarrowingPacker x = new NarrowingPacker(4);
        checks.same("told() before", x.told(), 0);
        Checks.typeAll(x, "abc");
        x.pack();
        checks.same("told() behind pack()", x.told(), 0);
        checks.same("unpack()", x.unpack(), 3);
        x.wipe();
        x.type(9);
        x.pack();
        checks.same("told() behind another pack()", x.told(), 3);
        checks.same("byteAt(2)", x.byteAt(2), 99);
        for (int wrong : new int[] {-1, 3, 119, 120, Integer.MIN_VALUE, Integer.MAX_VALUE}) {
            checks.same("byteAt(" + wrong + ")", x.byteAt(wrong), -1);
        }
        checks.same("unpack()", x.unpack(), 1);
        checks.same("byteAt(0)", x.byteAt(0), 9);
        checks.same("byteAt(1)", x.byteAt(1), -1);
        x.cut(0);
        checks.refused("unpack() of nothing", MISSING, x, x::unpack);
        checks.same("told()", x.told(), 1);
        x.wipe();
        x.pack();
        checks.same("unpack() of END", x.unpack(), 0);
        checks.same("told() of END", x.told(), 0);
        checks.same("byteAt(0) of END", x.byteAt(0), -1);
    }

    private void packetsThatNoPackingMakes() {
        told("END", new Script().end());
        told("literals in place of a match", new Script()
                .literal(1).literal(2).literal(1).literal(2).literal(1).literal(2).end());
        told("a match with distance 1", new Script().literal(200).match(119, 1).end());
        told("echoes of one distance", literals(3).echo(1, 2).echo(2, 3).echo(3, 4).echo(0, 5).end());
        told("four distances", literals(9).match(2, 2).match(3, 5).match(4, 7).match(5, 9)
                .echo(3, 2).echo(3, 3).echo(2, 4).echo(1, 5).echo(0, 6).echo(2, 2).shortly().end());
        told("shorts", literals(2).shortly().shortly().literal(9).shortly().literal(8).end());
        told("literals as likely", literals(5).match(3, 5).literal(148 ^ 1).shortly()
                .literal(255).match(2, 3).literal(0).end());
        told("all states", literals(4).match(2, 1).literal(1).literal(2).echo(0, 2).match(2, 3)
                .literal(3).shortly().shortly().literal(4).literal(5).literal(6).literal(7).end());
        // A slot of 15 is END whatever the length before it says.
        told("END with a length", literals(3).matchStart(5, 15));
        told("END with the longest length", literals(3).matchStart(143, 15));
    }

    private void missingBytes() {
        refused("nothing", MISSING, new int[] {});
        refused("three bytes", MISSING, new int[] {131, 191, 252});
        refused("three bytes of 255", MISSING, new int[] {255, 255, 255});
        int[] bytes = literals(20).match(5, 7).end().bytes();
        for (int n = 0; n < bytes.length; n++) {
            refused("the first " + n, MISSING, Arrays.copyOf(bytes, n));
        }
    }

    private static NarrowingPacker unpacked(int[] bytes) {
        NarrowingPacker x = new NarrowingPacker(4);
        Checks.addAll(x, bytes);
        x.unpack();
        return x;
    }

    private void firstFourBytes() {
        refused("four of 255", WRONG, new int[] {255, 255, 255, 255});
        refused("five of 255", WRONG, new int[] {255, 255, 255, 255, 255});
        int[] many = new int[200];
        Arrays.fill(many, 255);
        refused("200 of 255", WRONG, many);
        many[3] = 254;
        checks.yes("254 is let in", !Checks.outcome(() -> unpacked(many)).equals("nothing"));
    }

    private void behindEnd() {
        for (Script script : new Script[] {new Script().end(), literals(20).match(5, 7).end()}) {
            int[] bytes = script.bytes();
            int[] longer = Arrays.copyOf(bytes, bytes.length + 1);
            refused("END and a byte of 0", WRONG, longer);
            longer[bytes.length] = 77;
            refused("END and a byte", WRONG, longer);
            refused("END and many", WRONG, Arrays.copyOf(bytes, 200));
            int[] other = bytes.clone();
            other[bytes.length - 1]++;
            refused("END and a CODE of 1", WRONG, other);
        }
    }

    private void slots() {
        for (int v : new int[] {0, 1, 2, 3, 9, 20}) {
            refused("slot 14 first", TOO_FAR, new Script().matchStart(v, 14).bytes());
            refused("slot 14 behind others", TOO_FAR, literals(119).matchStart(v, 14).bytes());
        }
        told("the farthest distance", literals(118).match(2, 118).end());
    }

    private void distances() {
        refused("an echo first", TOO_FAR, new Script().echo(0, 2).end().bytes());
        refused("an echo 3 first", TOO_FAR, new Script().echo(3, 2).end().bytes());
        refused("a short first", TOO_FAR, new Script().shortly().end().bytes());
        refused("a match first", TOO_FAR, new Script().match(2, 1).end().bytes());
        for (int n = 1; n < 110; n += 3) {
            told("distance " + n, literals(n).match(3, n).end());
            refused("distance above " + n, TOO_FAR, literals(n).match(3, n + 1).end().bytes());
        }
        refused("a far distance", TOO_FAR, literals(60).match(2, 128).end().bytes());
    }

    private void fullResults() {
        told("120 literals", literals(120).end());
        refused("121 literals", TOO_MANY, literals(121).end().bytes());
        told("a match up to 120", literals(20).match(100, 7).end());
        refused("a match up to 121", TOO_MANY, literals(20).match(101, 7).end().bytes());
        told("an echo up to 120", literals(1).echo(0, 119).end());
        refused("an echo up to 121", TOO_MANY, literals(1).echo(0, 120).end().bytes());
        refused("the longest echo", TOO_MANY, literals(1).echo(0, 145).end().bytes());
        told("a short up to 120", literals(119).shortly().end());
        refused("a short up to 121", TOO_MANY, literals(120).shortly().end().bytes());
    }

    private void orderOfThrows() {
        // The distance is looked at before the room.
        refused("far and long", TOO_FAR, literals(5).match(145, 6).bytes());
        refused("far and long, an echo", TOO_FAR, new Script().echo(0, 145).bytes());
        // The slot is looked at at once, the distance behind the last bit, which needs its bytes.
        int[] far = literals(30).match(2, 90).bytes();
        refused("far", TOO_FAR, far);
        refused("far and cut", MISSING, Arrays.copyOf(far, far.length - 1));
        int[] slot = literals(30).matchStart(0, 14).bytes();
        refused("slot 14", TOO_FAR, slot);
        refused("slot 14 and cut", MISSING, Arrays.copyOf(slot, slot.length - 1));
        int[] full = literals(121).bytes();
        refused("too many", TOO_MANY, full);
        refused("too many and cut", MISSING, Arrays.copyOf(full, full.length - 1));
        // Bytes behind the packet that throws are never looked at.
        refused("far, and more", TOO_FAR, Arrays.copyOf(far, 200));
        refused("too many, and more", TOO_MANY, Arrays.copyOf(full, 200));
    }
}
