import java.util.Arrays;

/** Promises 8 (size), 9 (at), 10 (add), 11 (put) and 12 (cut). */
public final class PackedTest {
    private final Checks checks = new Checks();

    public static void main(String[] args) {
        PackedTest test = new PackedTest();
        test.addAndAt();
        test.addRefuses();
        test.addBehindAPacking();
        test.addBehindAFullPacking();
        test.put();
        test.putOfFullBytes();
        test.cut();
        test.cutAtItsEdges();
        test.checks.end("PackedTest");
    }

    /** Promises 8, 9 and 10. */
    private void addAndAt() {
        NarrowingPacker x = new NarrowingPacker(4);
        int[] added = {0, 255, 17, 128};
        for (int k = 0; k < added.length; k++) {
            checks.same("size()", x.size(), k);
            checks.same("at(" + k + ") before", x.at(k), -1);
            checks.same("add(" + added[k] + ")", x.add(added[k]), true);
            checks.same("at(" + k + ")", x.at(k), added[k]);
        }
        checks.same("size()", x.size(), 4);
        for (int wrong : new int[] {-1, 4, 200, Integer.MIN_VALUE, Integer.MAX_VALUE}) {
            checks.same("at(" + wrong + ")", x.at(wrong), -1);
        }
        checks.same("wipe()", x.wipe(), 0);
    }

    private void addRefuses() {
        NarrowingPacker x = new NarrowingPacker(4);
        for (int b : new int[] {-1, 256, Integer.MIN_VALUE, Integer.MAX_VALUE}) {
            checks.same("add(" + b + ")", x.add(b), false);
        }
        checks.same("size()", x.size(), 0);
        for (int k = 0; k < 200; k++) {
            checks.same("add, " + k + " before", x.add(k), true);
        }
        checks.same("add, 200 before", x.add(1), false);
        checks.same("size()", x.size(), 200);
        checks.same("at(199)", x.at(199), 199);
        checks.same("at(200)", x.at(200), -1);
        x.cut(199);
        checks.same("add, 199 before", x.add(1), true);
    }

    private void addBehindAPacking() {
        NarrowingPacker x = new NarrowingPacker(4);
        x.pack();
        checks.same("add(7)", x.add(7), true);
        checks.same("bytes", Arrays.toString(Checks.packedBytes(x)), "[131, 191, 252, 0, 0, 7]");
    }

    /** A packing is filled up to 200; the next packing takes the place of all of it. */
    private void addBehindAFullPacking() {
        NarrowingPacker x = new NarrowingPacker(4);
        Checks.typeAll(x, "abcabcabcabd");
        int size = x.pack();
        int[] packed = Checks.packedBytes(x);
        for (int k = size; k < 200; k++) {
            checks.same("add, " + k + " before", x.add(255), true);
        }
        checks.same("add, 200 before", x.add(255), false);
        checks.same("size()", x.size(), 200);
        checks.same("the packing's bytes",
                Arrays.toString(Arrays.copyOf(Checks.packedBytes(x), size)), Arrays.toString(packed));
        checks.same("pack()", x.pack(), size);
        checks.same("size()", x.size(), size);
        checks.same("at(size())", x.at(size), -1);
        checks.same("add() behind it", x.add(0), true);
        checks.same("at(size() - 1)", x.at(size), 0);
    }

    /** Promise 11. */
    private void put() {
        NarrowingPacker x = new NarrowingPacker(4);
        Class<?> noSuch = IndexOutOfBoundsException.class;
        checks.refused("put(0, 1)", noSuch, x, () -> x.put(0, 1));
        Checks.addAll(x, new int[] {5, 6, 7});
        checks.same("put(0, 255)", x.put(0, 255), 5);
        checks.same("put(0, 0)", x.put(0, 0), 255);
        checks.same("put(2, 9)", x.put(2, 9), 7);
        checks.same("bytes", Arrays.toString(Checks.packedBytes(x)), "[0, 6, 9]");
        for (int i : new int[] {-1, 3, 199, 200, Integer.MIN_VALUE, Integer.MAX_VALUE}) {
            checks.refused("put(" + i + ", 1)", noSuch, x, () -> x.put(i, 1));
            // Both are wrong: the document names the missing byte first.
            checks.refused("put(" + i + ", 256)", noSuch, x, () -> x.put(i, 256));
        }
        for (int b : new int[] {-1, 256, Integer.MIN_VALUE, Integer.MAX_VALUE}) {
            checks.refused("put(1, " + b + ")", IllegalArgumentException.class, x, () -> x.put(1, b));
        }
        x.cut(1);
        checks.refused("put(1, 1) behind cut(1)", noSuch, x, () -> x.put(1, 1));
    }

    private static NarrowingPacker full() {
        NarrowingPacker x = new NarrowingPacker(4);
        for (int k = 0; k < 200; k++) {
            x.add(k);
        }
        return x;
    }

    private void putOfFullBytes() {
        NarrowingPacker x = full();
        checks.same("put(199, 0)", x.put(199, 0), 199);
        checks.same("put(199, 255)", x.put(199, 255), 0);
        checks.same("at(199)", x.at(199), 255);
        checks.same("at(198)", x.at(198), 198);
        checks.same("size()", x.size(), 200);
        checks.refused("put(200, 0)", IndexOutOfBoundsException.class, x, () -> x.put(200, 0));
        checks.refused("put(199, 256)", IllegalArgumentException.class, x, () -> x.put(199, 256));
    }

    private void cutAtItsEdges() {
        NarrowingPacker x = full();
        checks.same("cut(201)", x.cut(201), 0);
        checks.same("cut(200)", x.cut(200), 0);
        checks.same("at(199)", x.at(199), 199);
        checks.same("cut(199)", x.cut(199), 1);
        checks.same("at(199)", x.at(199), -1);
        checks.same("at(198)", x.at(198), 198);
        checks.same("cut(1)", x.cut(1), 198);
        checks.same("at(0)", x.at(0), 0);
        checks.same("at(1)", x.at(1), -1);
        checks.same("cut(0)", x.cut(0), 1);
        checks.same("cut(0) again", x.cut(0), 0);
        checks.same("add() behind it", x.add(9), true);
        checks.same("at(0)", x.at(0), 9);
        checks.same("at(1)", x.at(1), -1);
    }

    /** Promise 12. */
    private void cut() {
        NarrowingPacker x = new NarrowingPacker(4);
        checks.same("cut(0) of none", x.cut(0), 0);
        Checks.addAll(x, new int[] {5, 6, 7, 8, 9});
        checks.same("cut(6)", x.cut(6), 0);
        checks.same("cut(5)", x.cut(5), 0);
        checks.same("cut(high)", x.cut(Integer.MAX_VALUE), 0);
        checks.same("size()", x.size(), 5);
        checks.same("cut(3)", x.cut(3), 2);
        checks.same("bytes", Arrays.toString(Checks.packedBytes(x)), "[5, 6, 7]");
        checks.same("at(3)", x.at(3), -1);
        Class<?> wrong = IllegalArgumentException.class;
        checks.refused("cut(-1)", wrong, x, () -> x.cut(-1));
        checks.refused("cut(low)", wrong, x, () -> x.cut(Integer.MIN_VALUE));
        checks.same("cut(0)", x.cut(0), 3);
        checks.same("size()", x.size(), 0);
        checks.refused("cut(-1) of none", wrong, x, () -> x.cut(-1));
    }
}
