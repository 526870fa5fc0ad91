import java.util.Arrays;
import java.util.NoSuchElementException;

/** Promises 13 (unpack), 14 (told) and 15 (byteAt), with what throws and in which order. */
public final class UnpackTest {
    private static final Class<?> MISSING = NoSuchElementException.class;
    private static final Class<?> WRONG = IllegalArgumentException.class;
    private static final Class<?> TOO_FAR = IndexOutOfBoundsException.class;
    private static final Class<?> TOO_MANY = IllegalStateException.class;

    private final Checks checks = new Checks();

    public static void main(String[] args) {
        UnpackTest test = new UnpackTest();
        test.resultStaysUntilTheNext();
        test.noneOnBothSides();
        test.nothingToldBefore();
        test.packetsThatNoPackingMakes();
        test.endMayBeFirst();
        test.firstFourMissing();
        test.missingBytes();
        test.firstFourBytes();
        test.behindEnd();
        test.slots();
        test.slotIsMetAtOnce();
        test.distances();
        test.distancesOfAFullResult();
        test.distanceIsMetBehindTheLastBit();
        test.fullResults();
        test.roomIsMetBehindTheLastBit();
        test.orderOfThrows();
        test.checks.end("UnpackTest");
    }

    private void told(String what, Script script) {
        NarrowingPacker x = new NarrowingPacker(4);
        Checks.addAll(x, script.bytes());
        int[] due = script.toldBytes();
        String packed = Arrays.toString(Checks.packedBytes(x));
        checks.same("unpack() of " + what, answer(x), "" + due.length);
        checks.same("told() of " + what, x.told(), due.length);
        checks.same("bytes of " + what,
                Arrays.toString(Checks.resultBytes(x)), Arrays.toString(due));
        checks.same("byteAt(told())", x.byteAt(due.length), -1);
        checks.same("the packed bytes behind " + what,
                Arrays.toString(Checks.packedBytes(x)), packed);
        checks.same("packets() behind " + what, x.packets(), 0);
        checks.same("unpack() of " + what + " again", answer(x), "" + due.length);
    }

    private static String answer(NarrowingPacker x) {
        int[] answer = {0};
        String outcome = Checks.outcome(() -> answer[0] = x.unpack());
        return outcome.equals("nothing") ? "" + answer[0] : outcome;
    }

    /** What is thrown leaves an earlier result, and all else, as it was. */
    private void refused(String what, Class<?> due, int[] bytes) {
        NarrowingPacker x = new NarrowingPacker(4);
        Checks.typeAll(x, "a result before");
        x.pack();
        x.unpack();
        x.cut(0);
        Checks.addAll(x, bytes);
        checks.refused("unpack() of " + what, due, x, x::unpack);
        checks.same("told()", x.told(), 15);
        x.pack();
        checks.same("unpack() behind it", x.unpack(), 15);
    }

    private static Script literals(int n) {
        return literals(n, 0);
    }

    /** So that the bits behind it stand otherwise against the bytes: some of the n by echoes. */
    private static Script literals(int n, int echoes) {
        Script script = new Script();
        for (int k = 0; k < n - 2 * echoes; k++) {
            script.literal(k * 37 % 256);
        }
        for (int k = 0; k < echoes; k++) {
            script.echo(0, 2);
        }
        return script;
    }

    private static int[] shorter(int[] bytes) {
        return Arrays.copyOf(bytes, bytes.length - 1);
    }

    /** Promises 14 and 15. */
    private void resultStaysUntilTheNext() {
        NarrowingPacker x = new NarrowingPacker(4);
        checks.same("told() before", x.told(), 0);
        Checks.typeAll(x, "abc");
        x.pack();
        checks.same("told() behind pack()", x.told(), 0);
        checks.same("unpack()", x.unpack(), 3);
        x.wipe();
        x.type(9);
        x.pack();
        checks.same("told() behind another pack()", x.told(), 3);
        checks.same("byteAt(2)", x.byteAt(2), 99);
        checks.same("unpack()", x.unpack(), 1);
        checks.same("byteAt(0)", x.byteAt(0), 9);
        checks.same("byteAt(1)", x.byteAt(1), -1);
        x.cut(0);
        checks.refused("unpack() of nothing", MISSING, x, x::unpack);
        checks.same("told()", x.told(), 1);
        x.wipe();
        x.pack();
        checks.same("unpack() of END", x.unpack(), 0);
        checks.same("told() of END", x.told(), 0);
        checks.same("byteAt(0) of END", x.byteAt(0), -1);
    }

    private void noneOnBothSides() {
        for (int n : new int[] {0, 1, 3, 119, 120}) {
            NarrowingPacker x = new NarrowingPacker(4);
            for (int k = 0; k < n; k++) {
                x.type(255 - k);
            }
            x.pack();
            checks.same("unpack()", x.unpack(), n);
            if (n > 0) {
                checks.same("the first", x.byteAt(0), 255);
                checks.same("the last", x.byteAt(n - 1), 256 - n);
            }
            for (int i : new int[] {-1, n, 120, 121, Integer.MIN_VALUE, Integer.MAX_VALUE}) {
                checks.same("byteAt(" + i + ") of " + n, x.byteAt(i), -1);
            }
        }
    }

    /** Promise 14: 0 before an unpack() that did not throw, and behind one that did. */
    private void nothingToldBefore() {
        NarrowingPacker x = new NarrowingPacker(4);
        checks.same("told() of a new object", x.told(), 0);
        Checks.addAll(x, literals(3).bytes());
        checks.refused("unpack() without END", MISSING, x, x::unpack);
        checks.same("told() behind it", x.told(), 0);
        checks.same("byteAt(0) behind it", x.byteAt(0), -1);
    }

    private void packetsThatNoPackingMakes() {
        told("END", new Script().end());
        told("literals in place of a match", new Script()
                .literal(1).literal(2).literal(1).literal(2).literal(1).literal(2).end());
        told("a match with distance 1", new Script().literal(200).match(119, 1).end());
        told("echoes of one distance", literals(3).echo(1, 2).echo(2, 3).echo(3, 4).echo(0, 5).end());
        told("four distances", literals(9).match(2, 2).match(3, 5).match(4, 7).match(5, 9)
                .echo(3, 2).echo(3, 3).echo(2, 4).echo(1, 5).echo(0, 6).echo(2, 2).shortly().end());
        told("shorts", literals(2).shortly().shortly().literal(9).shortly().literal(8).end());
        told("literals as likely", literals(5).match(3, 5).literal(148 ^ 1).shortly()
                .literal(255).match(2, 3).literal(0).end());
        told("all states", literals(4).match(2, 1).literal(1).literal(2).echo(0, 2).match(2, 3)
                .literal(3).shortly().shortly().literal(4).literal(5).literal(6).literal(7).end());
        // A slot of 15 is END whatever the length before it says.
        told("END with a length", literals(3).matchStart(5, 15));
        told("END with the longest length", literals(3).matchStart(143, 15));
    }

    /** END alone: well, cut, longer, and with a CODE that is not 0. */
    private void endMayBeFirst() {
        told("END alone", new Script().end());
        refused("END, four bytes of it", MISSING, new int[] {131, 191, 252, 0});
        refused("END and a byte of 0", WRONG, new int[] {131, 191, 252, 0, 0, 0});
        refused("END and a CODE of 1", WRONG, new int[] {131, 191, 252, 0, 1});
        refused("END and a CODE of 255", WRONG, new int[] {131, 191, 252, 0, 255});
        refused("END, a CODE of 1 and a byte", WRONG, new int[] {131, 191, 252, 0, 1, 0});
    }

    private void firstFourMissing() {
        for (int n = 0; n < 4; n++) {
            for (int b : new int[] {0, 128, 255}) {
                int[] bytes = new int[n];
                Arrays.fill(bytes, b);
                refused(n + " bytes of " + b, MISSING, bytes);
            }
        }
        refused("three bytes of END", MISSING, new int[] {131, 191, 252});
    }

    private void missingBytes() {
        int[] bytes = literals(20).match(5, 7).end().bytes();
        for (int n = 0; n < bytes.length; n++) {
            refused("the first " + n, MISSING, Arrays.copyOf(bytes, n));
        }
    }

    /** All four must be 255; one less leads to an echo 3 of 145 bytes, if all others are 255. */
    private void firstFourBytes() {
        refused("four of 255", WRONG, new int[] {255, 255, 255, 255});
        refused("five of 255", WRONG, new int[] {255, 255, 255, 255, 255});
        refused("four of 255, and 0", WRONG, new int[] {255, 255, 255, 255, 0});
        int[] many = new int[200];
        Arrays.fill(many, 255);
        refused("200 of 255", WRONG, many);
        for (int k = 0; k < 4; k++) {
            int[] less = many.clone();
            less[k] = 254;
            refused("254 at place " + k, TOO_FAR, less);
            refused("254 at place " + k + ", four bytes", MISSING, Arrays.copyOf(less, 4));
        }
    }

    private void behindEnd() {
        for (Script script : new Script[] {new Script().end(), literals(20).match(5, 7).end()}) {
            int[] bytes = script.bytes();
            int[] longer = Arrays.copyOf(bytes, bytes.length + 1);
            refused("END and a byte of 0", WRONG, longer);
            longer[bytes.length] = 77;
            refused("END and a byte", WRONG, longer);
            refused("END and many", WRONG, Arrays.copyOf(bytes, 200));
            int[] other = bytes.clone();
            other[bytes.length - 1]++;
            refused("END and a CODE of 1", WRONG, other);
        }
    }

    /** Slot 14 is too far whatever was told; 13 and 15 are not, or END. */
    private void slots() {
        for (int v : new int[] {0, 1, 2, 3, 7, 8, 15, 16, 143}) {
            refused("slot 14 first", TOO_FAR, new Script().matchStart(v, 14).bytes());
            refused("slot 14 behind others", TOO_FAR, literals(119).matchStart(v, 14).bytes());
            refused("slot 14, all told", TOO_FAR, literals(120).matchStart(v, 14).bytes());
        }
        told("slot 13", literals(97).match(2, 97).end());
        told("the farthest distance", literals(118).match(2, 118).end());
        told("slot 15", literals(119).matchStart(0, 15));
    }

    /** Behind slot 14 no bit is read: its bytes end where the slot's last bit was read. */
    private void slotIsMetAtOnce() {
        int met = 0;
        for (int n = 0; n < 40; n++) {
            int[] bytes = literals(n).matchStart(0, 14).bytes();
            refused("slot 14 behind " + n, TOO_FAR, bytes);
            refused("slot 14 behind " + n + " and cut", MISSING, shorter(bytes));
            Script more = literals(n).matchStart(0, 14).spell("F 14>000000");
            met += more.bytes().length > bytes.length ? 1 : 0;
        }
        checks.yes("a row would have needed a byte", met > 0);
    }

    private void distances() {
        for (int k = 0; k < 4; k++) {
            refused("echo " + k + " first", TOO_FAR, new Script().echo(k, 2).end().bytes());
            told("echo " + k + " behind a byte", literals(1).echo(k, 2).end());
        }
        refused("a short first", TOO_FAR, new Script().shortly().end().bytes());
        told("a short behind a byte", literals(1).shortly().end());
        refused("a match first", TOO_FAR, new Script().match(2, 1).end().bytes());
        for (int n = 1; n <= 117; n++) {
            told("distance " + n, literals(n).match(3, n).end());
            refused("distance above " + n, TOO_FAR, literals(n).match(3, n + 1).end().bytes());
        }
        refused("a far distance", TOO_FAR, literals(60).match(2, 128).end().bytes());
    }

    /** From 118 bytes on the distance or the room ends it, and the distance comes first. */
    private void distancesOfAFullResult() {
        told("118 bytes, distance 118", literals(118).match(2, 118).end());
        refused("118 bytes, distance 118, one more", TOO_MANY, literals(118).match(3, 118).bytes());
        for (int n = 118; n <= 120; n++) {
            for (int d = 115; d <= 128; d++) {
                if (d > n || n > 118) {
                    refused(n + " bytes, distance " + d, d > n ? TOO_FAR : TOO_MANY,
                            literals(n).match(2, d).bytes());
                }
            }
        }
    }

    /** The row's last bits need a byte that is missing: that is met before the distance is. */
    private void distanceIsMetBehindTheLastBit() {
        int met = 0;
        for (int n = 1; n < 60; n++) {
            int slotEnds = literals(n).matchStart(0, 12).bytes().length;
            int[] bytes = literals(n).match(2, 66).bytes();
            refused("distance 66 of " + n, TOO_FAR, bytes);
            refused("distance 66 of " + n + " and cut", MISSING, shorter(bytes));
            met += bytes.length > slotEnds ? 1 : 0;
        }
        checks.yes("a row needed a byte", met > 0);
        refused("a short first, four bytes", TOO_FAR, new Script().shortly().bytes());
        int[] echo = new Script().echo(3, 2).bytes();
        checks.same("an echo 3 needs five bytes", echo.length, 5);
        refused("an echo 3 first", TOO_FAR, echo);
        refused("an echo 3 first and cut", MISSING, shorter(echo));
    }

    private void fullResults() {
        told("119 literals", literals(119).end());
        told("120 literals", literals(120).end());
        refused("121 literals", TOO_MANY, literals(121).end().bytes());
        told("a match up to 120", literals(20).match(100, 7).end());
        refused("a match up to 121", TOO_MANY, literals(20).match(101, 7).end().bytes());
        told("an echo up to 120", literals(1).echo(0, 119).end());
        refused("an echo up to 121", TOO_MANY, literals(1).echo(0, 120).end().bytes());
        refused("the longest echo", TOO_MANY, literals(1).echo(0, 145).end().bytes());
        refused("the longest match", TOO_MANY, literals(1).match(145, 1).end().bytes());
        told("a short up to 120", literals(119).shortly().end());
        refused("a short up to 121", TOO_MANY, literals(120).shortly().end().bytes());
    }

    /** The last packet needs a byte that is missing: that is met before the room is. */
    private void roomIsMetBehindTheLastBit() {
        int met = 0;
        for (int k = 0; k < 20; k++) {
            refusedCut("a literal", literals(120, k), literals(120, k).literal(9));
            refusedCut("an echo", literals(100, k), literals(100, k).echo(0, 21));
            refusedCut("a match", literals(100, k), literals(100, k).match(21, 99));
            int[] bytes = literals(120, k).shortly().bytes();
            refused("a short", TOO_MANY, bytes);
            if (bytes.length > literals(120, k).bytes().length) {
                met++;
                refused("a short and cut", MISSING, shorter(bytes));
            }
        }
        checks.yes("a short needed a byte", met > 0);
    }

    private void refusedCut(String what, Script before, Script all) {
        checks.yes(what + " needs a byte", all.bytes().length > before.bytes().length);
        refused(what, TOO_MANY, all.bytes());
        refused(what + " and cut", MISSING, shorter(all.bytes()));
    }

    private void orderOfThrows() {
        // The distance is looked at before the room.
        refused("far and long", TOO_FAR, literals(5).match(145, 6).bytes());
        refused("far and long, an echo", TOO_FAR, new Script().echo(0, 145).bytes());
        // The slot is looked at at once, the distance behind the last bit, which needs its bytes.
        int[] far = literals(30).match(2, 90).bytes();
        refused("far", TOO_FAR, far);
        refused("far and cut", MISSING, shorter(far));
        int[] full = literals(121).bytes();
        refused("too many", TOO_MANY, full);
        refused("too many and cut", MISSING, shorter(full));
        // A packet that throws comes before END, which would have thrown, too.
        refused("far, END and more", TOO_FAR, Arrays.copyOf(literals(5).match(2, 6).end().bytes(), 90));
        refused("too many, END and more", TOO_MANY, Arrays.copyOf(literals(121).end().bytes(), 190));
        // A distance too far comes before a room too small, whichever packet it is.
        refused("far at 119", TOO_FAR, literals(119).match(2, 120).bytes());
        // Bytes behind the packet that throws are never looked at.
        refused("far, and more", TOO_FAR, Arrays.copyOf(far, 200));
        refused("too many, and more", TOO_MANY, Arrays.copyOf(full, 200));
    }
}
