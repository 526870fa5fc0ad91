import java.util.Arrays;

/** Promises 1 (a new object), 2 (type) and 3 (wipe). */
public final class SourceTest {
    private final Checks checks = new Checks();

    public static void main(String[] args) {
        SourceTest test = new SourceTest();
        test.newObject();
        test.limitIsMadeToFit();
        test.typeTakesBytes();
        test.typeRefuses();
        test.refusedBytesAreNotThere();
        test.wipedSourceHasAllItsRoom();
        test.wipeEmptiesTheSourceAlone();
        test.checks.end("SourceTest");
    }

    /** Promise 1. */
    private void newObject() {
        for (int limit : new int[] {Integer.MIN_VALUE, -1, 0, 1, 7, 16, 17, Integer.MAX_VALUE}) {
            NarrowingPacker x = new NarrowingPacker(limit);
            checks.same("size()", x.size(), 0);
            checks.same("told()", x.told(), 0);
            checks.same("packets()", x.packets(), 0);
            checks.same("at(0)", x.at(0), -1);
            checks.same("byteAt(0)", x.byteAt(0), -1);
            checks.same("packet(0, 0)", x.packet(0, 0), -1);
            checks.same("chance(0, 0)", x.chance(0, 0), -1);
            checks.same("wipe()", x.wipe(), 0);
            checks.refused("unpack()", java.util.NoSuchElementException.class, x, x::unpack);
        }
    }

    /**
     * Before the last "ab" stand n nearer ones that agree in two bytes, and one far that agrees in
     * three: it is found only by a limit above n.
     */
    private void limitIsMadeToFit() {
        int[][] limitAndReach = {
            {Integer.MIN_VALUE, 1}, {-5, 1}, {0, 1}, {1, 1}, {2, 2}, {3, 3}, {9, 9}, {15, 15},
            {16, 16}, {17, 16}, {99, 16}, {Integer.MAX_VALUE, 16}
        };
        for (int[] row : limitAndReach) {
            checks.same("limit " + row[0] + ", reached", longestIsFound(row[0], row[1] - 1), true);
            checks.same("limit " + row[0] + ", beyond", longestIsFound(row[0], row[1]), false);
        }
    }

    private static boolean longestIsFound(int limit, int nearer) {
        NarrowingPacker x = new NarrowingPacker(limit);
        Checks.typeAll(x, "abz");
        for (int k = 0; k < nearer; k++) {
            Checks.typeAll(x, "ab" + (char) (200 + k));
        }
        Checks.typeAll(x, "y" + "abz");
        x.pack();
        int length = 0;
        for (int i = 0; i < x.packets(); i++) {
            length = Math.max(length, x.packet(i, 2) == 3 * nearer + 4 ? x.packet(i, 1) : 0);
        }
        return length == 3;
    }

    /** Promise 2. */
    private void typeTakesBytes() {
        NarrowingPacker x = new NarrowingPacker(4);
        int[] typed = {0, 255, 1, 254, 127, 128};
        for (int b : typed) {
            checks.same("type(" + b + ")", x.type(b), true);
        }
        x.pack();
        x.unpack();
        checks.same("the bytes", Arrays.toString(Checks.resultBytes(x)), Arrays.toString(typed));
        checks.same("wipe()", x.wipe(), typed.length);
    }

    private void typeRefuses() {
        NarrowingPacker x = new NarrowingPacker(4);
        for (int b : new int[] {-1, 256, Integer.MIN_VALUE, Integer.MAX_VALUE, 256 + 97}) {
            checks.same("type(" + b + ")", x.type(b), false);
        }
        checks.same("wipe()", x.wipe(), 0);
        for (int k = 0; k < 120; k++) {
            checks.same("type, " + k + " before", x.type(k), true);
        }
        checks.same("type, 120 before", x.type(7), false);
        checks.same("wipe()", x.wipe(), 120);
        checks.same("type, wiped before", x.type(7), true);
        checks.same("wipe()", x.wipe(), 1);
    }

    /** Neither a wrong byte nor the 121st leaves anything in the source. */
    private void refusedBytesAreNotThere() {
        NarrowingPacker x = new NarrowingPacker(4);
        int[] due = new int[120];
        for (int k = 0; k < 120; k++) {
            due[k] = 255 - k;
            x.type(-1);
            x.type(due[k]);
            x.type(256);
        }
        for (int b : new int[] {0, 255, -1, 256}) {
            checks.same("type(" + b + "), 120 before", x.type(b), false);
        }
        x.pack();
        checks.same("unpack()", x.unpack(), 120);
        checks.same("the bytes", Arrays.toString(Checks.resultBytes(x)), Arrays.toString(due));
        checks.same("wipe()", x.wipe(), 120);
    }

    private void wipedSourceHasAllItsRoom() {
        NarrowingPacker x = new NarrowingPacker(4);
        for (int k = 0; k < 120; k++) {
            x.type(k);
        }
        checks.same("wipe()", x.wipe(), 120);
        for (int k = 0; k < 120; k++) {
            checks.same("type, wiped, " + k + " before", x.type(k), true);
        }
        checks.same("type, wiped, 120 before", x.type(0), false);
    }

    /** Promise 3. */
    private void wipeEmptiesTheSourceAlone() {
        NarrowingPacker x = new NarrowingPacker(4);
        Checks.typeAll(x, "abcabcabd");
        x.pack();
        x.unpack();
        String before = Checks.snapshot(x);
        checks.same("wipe()", x.wipe(), 9);
        checks.same("the rest", Checks.snapshot(x), before);
        checks.same("wipe() again", x.wipe(), 0);
        checks.same("pack()", x.pack(), 5);
    }
}
