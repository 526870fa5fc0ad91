import java.util.Arrays;

/** RANGE: carries, digits of 0 and 255, the edge at 2^24, and chances that learned all they can. */
public final class RangeTest {
    private static final long EDGE = 1L << 24;

    private final Checks checks = new Checks();

    public static void main(String[] args) {
        RangeTest test = new RangeTest();
        test.carriesThrough255();
        test.digitsOf255ThatStay();
        test.digitsOf0();
        test.rangeAtItsEdge();
        test.rangeBelowItsEdge();
        test.rangeAtItsEdgeBehindEnd();
        test.chancesLearnFar();
        test.checks.end("RangeTest");
    }

    /** Literals alone: packed as the script says, and unpacked again. */
    private Script literals(int... source) {
        Script script = new Script();
        NarrowingPacker x = new NarrowingPacker(4);
        for (int b : source) {
            script.literal(b);
            x.type(b);
        }
        int[] due = script.end().bytes();
        String what = Arrays.toString(source);
        checks.same("pack() of " + what, x.pack(), due.length);
        checks.same("the packed bytes of " + what,
                Arrays.toString(Checks.packedBytes(x)), Arrays.toString(due));
        checks.same("unpack() of " + what, Checks.outcome(x::unpack), "nothing");
        checks.same("the result of " + what, Arrays.toString(Checks.resultBytes(x)), what);
        return script;
    }

    /** Behind the bytes of 255 stand the four digits in which LOW still grows. */
    private void carriesThrough255() {
        checks.same("a carry through one", literals(66, 105, 218, 28, 19).longestCarry, 1);
        checks.same("through two", literals(126, 217, 115, 7, 131, 23).longestCarry, 2);
        checks.same("through three", literals(206, 190, 58, 219, 4).longestCarry, 3);
        checks.same("through four",
                literals(182, 150, 61, 68, 17, 242, 83, 43, 33).longestCarry, 4);
        checks.same("through none", literals(32).longestCarry, 0);
    }

    private void digitsOf255ThatStay() {
        int[] bytes = literals(225, 5, 173, 160, 26, 137).bytes();
        checks.same("three bytes of 255", Arrays.toString(bytes),
                "[112, 129, 93, 42, 126, 255, 255, 255, 205, 7, 0]");
    }

    /** There are N + 4 digits, also where the highest or the lowest ones are 0. */
    private void digitsOf0() {
        int[] bytes = literals(0, 3, 4, 190, 97, 250, 29, 8).bytes();
        checks.same("zeros before and behind", Arrays.toString(bytes),
                "[0, 0, 241, 151, 154, 43, 62, 33, 213, 206, 73, 31, 0, 0]");
    }

    /** A range of 2^24 is not below 2^24; the bit before was a 0 here, and a 1 there. */
    private void rangeAtItsEdge() {
        for (int b : new int[] {32, 117, 13, 230, 14, 110}) {
            checks.yes("2^24 was met", literals(b).ranges.contains(EDGE));
        }
        checks.yes("2^24 was not met", !literals(0).ranges.contains(EDGE));
    }

    private void rangeBelowItsEdge() {
        Script script = literals(4, 232, 24, 59, 85, 3, 55, 235);
        checks.yes("2^24 - 1 was met", script.ranges.contains(EDGE - 1));
    }

    /** Only behind the last bit can one multiplication too many be seen: by a byte more. */
    private void rangeAtItsEdgeBehindEnd() {
        Script at = literals(194, 164, 30, 220, 36, 59, 149, 200, 87, 202, 27, 14, 188, 243, 90, 108,
                166, 19);
        checks.same("the last range", lastOf(at), EDGE);
        Script again = literals(224, 169, 132, 32, 251, 238, 115, 20, 228, 220, 126, 42, 201, 197, 37,
                155, 184, 125, 9);
        checks.same("the last range", lastOf(again), EDGE);
        Script below = literals(134, 57, 49, 142, 23, 73, 67, 29, 18, 242, 207, 214, 220, 48, 8, 195,
                100, 58, 174, 99, 146, 241, 152, 253, 77, 204, 44, 13, 227, 214, 10, 117, 229, 30, 177);
        checks.same("the last range", lastOf(below), EDGE - 1024);
    }

    private static long lastOf(Script script) {
        return script.ranges.get(script.ranges.size() - 1);
    }

    /** 120 times 0 [M 0], then 1 [M 0]; and, as no packing does, 118 times 1 [M 11]. */
    private void chancesLearnFar() {
        int[] source = new int[120];
        Arrays.setAll(source, k -> k * 7 % 256);
        Script script = literals(source);
        NarrowingPacker x = new NarrowingPacker(16);
        for (int b : source) {
            x.type(b);
        }
        x.pack();
        checks.same("packets()", x.packets(), 120);
        checks.same("chance(0, 0)", x.chance(0, 0), script.chance("M 0"));
        Script shorts = new Script().literal(5);
        for (int k = 0; k < 119; k++) {
            shorts.shortly();
        }
        checks.yes("[M 11] is far down", shorts.chance("M 11") < 50);
        NarrowingPacker y = new NarrowingPacker(1);
        Checks.addAll(y, shorts.end().bytes());
        checks.same("unpack() of shorts", y.unpack(), 120);
        checks.same("the last byte", y.byteAt(119), 5);
    }
}
