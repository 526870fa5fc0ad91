import java.util.Arrays;
import java.util.List;

/** BITS: the edges of literals, lengths and distances, spelled bit by bit where it is short. */
public final class BitsTest {
    private static final String A = "M 0=0, L 0 0>01100001";
    private static final int[] LENGTHS = {2, 3, 4, 5, 6, 9, 10, 11, 16, 17, 18, 19};

    private final Checks checks = new Checks();

    public static void main(String[] args) {
        BitsTest test = new BitsTest();
        test.endAlone();
        test.kindsAreTold();
        test.highestBitsOfTheByteBefore();
        test.literalInEachHalfOfTheStates();
        test.literalsBehindACopy();
        test.lengthsOfEchoes();
        test.lengthsOfMatches();
        test.lengthsTogether();
        test.echoLengthsTogether();
        test.slotTreeByLength();
        test.distances();
        test.distanceOne();
        test.slotsTogether();
        test.checks.end("BitsTest");
    }

    /** The bytes of the source are packed as the script's, and come back. */
    private void packsAs(String what, int[] source, Script due) {
        NarrowingPacker x = new NarrowingPacker(16);
        for (int b : source) {
            x.type(b);
        }
        x.pack();
        checks.same("the packed bytes of " + what,
                Arrays.toString(Checks.packedBytes(x)), Arrays.toString(due.bytes()));
        checks.same("unpack() of " + what, Checks.outcome(x::unpack), "nothing");
        checks.same("the result of " + what,
                Arrays.toString(Checks.resultBytes(x)), Arrays.toString(source));
    }

    private void packsAs(String source, String bits) {
        packsAs(source, source.chars().toArray(), new Script().spell(bits));
    }

    /** What no packing makes is unpacked alone. */
    private void unpacks(String what, Script script) {
        NarrowingPacker x = new NarrowingPacker(16);
        Checks.addAll(x, script.bytes());
        checks.same("unpack() of " + what, Checks.outcome(x::unpack), "nothing");
        checks.same("the result of " + what,
                Arrays.toString(Checks.resultBytes(x)), Arrays.toString(script.toldBytes()));
    }

    private void endAlone() {
        packsAs("", "M 0=1, R 0=0, match 0=0, match low>000, D 0>1111");
    }

    private void kindsAreTold() {
        packsAs("a", A + Script.endIn(0));
        packsAs("aa", A + ", M 0=1, R 0=1, A 0=0, S 0=0" + Script.endIn(9));
        String ab = A + ", M 0=0, L 1 0>01100010";
        String abab = ab + ", M 0=1, R 0=0, match 0=0, match low>000, D 0>0001";
        packsAs("abab", abab + Script.endIn(7));
        packsAs("ababbb", abab + ", M 7=1, R 7=1, A 7=1, B 7=0, echo 0=0, echo low>000"
                + Script.endIn(11));
        // Behind "ababba" R0 .. R3 are 3, 2, 1, 1; the last two bytes stand one place behind.
        packsAs("ababbaaa", abab + ", M 7=1, R 7=0, match 0=0, match low>000, D 0>0010"
                + ", M 10=1, R 10=1, A 10=1, B 10=1, C 10=0, echo 0=0, echo low>000"
                + Script.endIn(11));
        // Behind "cbacbcbba" R3 alone is 1.
        Script four = new Script().literal('c').literal('b').literal('a');
        four.match(2, 3).match(2, 2).match(2, 6);
        four.spell("M 10=1, R 10=1, A 10=1, B 10=1, C 10=1, echo 0=0, echo low>000"
                + Script.endIn(11));
        packsAs("cbacbcbbaaa", "cbacbcbbaaa".chars().toArray(), four);
    }

    /** q, at both sides of each of its edges; 0 before the first byte. */
    private void highestBitsOfTheByteBefore() {
        packsAs("5, 9", new int[] {5, 9}, new Script().spell(
                "M 0=0, L 0 0>00000101, M 0=0, L 0 0>00001001" + Script.endIn(0)));
        int[][] lastAndQ = {{0, 0}, {63, 0}, {64, 1}, {127, 1}, {128, 2}, {191, 2}, {192, 3}, {255, 3}};
        for (int[] row : lastAndQ) {
            for (int[] other : lastAndQ) {
                if (row[0] != other[0]) {
                    afterBoth(row, other);
                }
            }
        }
    }

    /** Each byte comes with one behind it: what the first taught is known to the second, or not. */
    private void afterBoth(int[] one, int[] other) {
        int[] source = {one[0], 37, other[0], 38};
        packsAs(Arrays.toString(source), source, new Script()
                .spell("M 0=0, L 0 0>" + eight(one[0]))
                .spell("M 0=0, L " + one[1] + " 0>" + eight(37))
                .spell("M 0=0, L 0 0>" + eight(other[0]))
                .spell("M 0=0, L " + other[1] + " 0>" + eight(38) + Script.endIn(0)));
    }

    private static String eight(int b) {
        return Integer.toBinaryString(256 + b).substring(1);
    }

    /** State 9 looks at the byte R0 places before, state 6 does not. */
    private void literalInEachHalfOfTheStates() {
        int[] source = {1, 1, 2, 1};
        packsAs("states 9 and 6", source, new Script().spell("M 0=0, L 0 0>00000001")
                .spell("M 0=1, R 0=1, A 0=0, S 0=0")
                .spell("M 9=0, L 0 1>0000001, L 0 0 10000001=0")
                .spell("M 6=0, L 0 0>00000001" + Script.endIn(3)));
        // Behind 1 2 1 2 the byte R0 places before is 1.
        int[] copied = {1, 2, 1, 2, 3, 1};
        packsAs("states 7 and 4", copied, new Script()
                .spell("M 0=0, L 0 0>00000001, M 0=0, L 0 0>00000010")
                .spell("M 0=1, R 0=0, match 0=0, match low>000, D 0>0001")
                .spell("M 7=0, L 0 1>0000001, L 0 0 10000001=1")
                .spell("M 4=0, L 0 0>00000001" + Script.endIn(1)));
    }

    /** The byte before agrees in none, some, all but one and (never when packing) all bits. */
    private void literalsBehindACopy() {
        for (int k = 0; k <= 8; k++) {
            int likely = 0b10110010;
            int other = k == 8 ? likely : likely ^ (128 >> k);
            Script script = new Script().literal(likely).literal(7).match(2, 2);
            script.literal(other).literal(likely).literal(7).echo(0, 2).literal(other ^ 3).end();
            unpacks("a literal that agrees in " + k + " bits", script);
        }
        Script mixed = new Script().literal(0b10110010).shortly().spell("M 9=0"
                + ", L 2 2 1=1, L 2 1 11=0, L 2 2 110=1, L 2 2 1101=1, L 2 1 11011=1"
                + ", L 2 0 110111=0, L 2 0 1101110=1, L 2 0 11011101=0" + Script.endIn(6));
        packsAs("a byte that agrees in four bits",
                new int[] {0b10110010, 0b10110010, 0b10111010}, mixed);
    }

    /** "aaa...": v at 0, 7, 8, 15, 16 and its longest, 117. */
    private void lengthsOfEchoes() {
        String echo = A + ", M 0=1, R 0=1, A 0=0, S 0=1, ";
        packsAs("a".repeat(3), echo + "echo 0=0, echo low>000" + Script.endIn(8));
        packsAs("a".repeat(10), echo + "echo 0=0, echo low>111" + Script.endIn(8));
        packsAs("a".repeat(11), echo + "echo 0=1, echo 1=0, echo mid>000" + Script.endIn(8));
        packsAs("a".repeat(18), echo + "echo 0=1, echo 1=0, echo mid>111" + Script.endIn(8));
        packsAs("a".repeat(19), echo + "echo 0=1, echo 1=1, echo high>0000000" + Script.endIn(8));
        packsAs("a".repeat(120), echo + "echo 0=1, echo 1=1, echo high>1100101" + Script.endIn(8));
    }

    /** "abab...": v at 0, 7, 8, 15, 16 and its longest, 116; w is 0 or 3. */
    private void lengthsOfMatches() {
        String match = A + ", M 0=0, L 1 0>01100010, M 0=1, R 0=0, ";
        String end = " 3>0001" + Script.endIn(7);
        String many = "ab".repeat(60);
        packsAs("abab", match + "match 0=0, match low>000, D 0>0001" + Script.endIn(7));
        packsAs(many.substring(0, 11), match + "match 0=0, match low>111, D" + end);
        packsAs(many.substring(0, 12), match + "match 0=1, match 1=0, match mid>000, D" + end);
        packsAs(many.substring(0, 19), match + "match 0=1, match 1=0, match mid>111, D" + end);
        packsAs(many.substring(0, 20), match + "match 0=1, match 1=1, match high>0000000, D" + end);
        packsAs(many, match + "match 0=1, match 1=1, match high>1100100, D" + end);
    }

    /** Two matches: what the first one's length taught is known to the second, or not. */
    private void lengthsTogether() {
        for (int one : LENGTHS) {
            for (int other : LENGTHS) {
                Row row = new Row(50);
                row.again(0, one);
                row.next();
                row.again(25, other);
                row.next();
                packsAs("matches of " + one + " and " + other, row.source(), row.script.end());
            }
        }
    }

    /** The same with echoes, and a match of the same length behind them. */
    private void echoLengthsTogether() {
        for (int one : LENGTHS) {
            for (int other : LENGTHS) {
                Row row = new Row(20);
                row.more(one);
                row.next();
                row.more(other);
                row.next();
                row.again(0, other);
                packsAs("echoes of " + one + " and " + other, row.source(), row.script.end());
            }
        }
    }

    /** w is the lesser of v and 3: 2, 3 and 4 have the trees D 2, D 3 and D 3. */
    private void slotTreeByLength() {
        int[] trees = {0, 1, 2, 3, 3, 3, 3, 3};
        for (int v = 0; v < 8; v++) {
            for (int w = 0; w < 8; w++) {
                Script script = new Script().literal(9).literal(8).literal(7).match(v + 2, 2);
                String low = Integer.toBinaryString(8 + w).substring(1);
                script.spell("M 7=1, R 7=0, match 0=0, match low>" + low);
                script.spell("D " + trees[w] + ">0010");
                Script plain = new Script().literal(9).literal(8).literal(7).match(v + 2, 2);
                plain.match(w + 2, 3);
                checks.same("v " + v + ", then " + w,
                        Arrays.toString(script.bytes()), Arrays.toString(plain.bytes()));
                unpacks("v " + v + ", then " + w, plain.end());
            }
        }
    }

    /** D, its slot, and its row from the lowest bit on. */
    private void distances() {
        String[] rows = {
            "1 0001", "2 0010", "3 0011", "4 0100 0", "5 0100 1", "6 0101 0", "7 0101 1",
            "8 0110 00", "9 0110 10", "10 0110 01", "11 0110 11", "12 0111 00", "15 0111 11",
            "16 1000 000", "17 1000 100", "20 1000 001", "23 1000 111", "24 1001 000", "31 1001 111",
            "32 1010 0000", "33 1010 1000", "47 1010 1111", "48 1011 0000", "63 1011 1111",
            "64 1100 00000", "65 1100 10000", "80 1100 00001", "95 1100 11111", "96 1101 00000",
            "116 1101 00101", "117 1101 10101"
        };
        for (String text : rows) {
            String[] parts = text.split(" ");
            Row row = new Row(Integer.parseInt(parts[0]) + 1);
            row.script.spell("M 0=1, R 0=0, match 0=0, match low>000, D 0>" + parts[1]);
            if (parts.length > 2) {
                row.script.spell("F " + Integer.parseInt(parts[1], 2) + ">" + parts[2]);
            }
            row.script.spell(Script.endIn(7));
            row.script.told.add(row.script.told.get(0));
            row.script.told.add(row.script.told.get(1));
            packsAs("D " + parts[0], row.source(), row.script);
        }
    }

    /** D is 0 only when none of R0 .. R3 is 1 any more. */
    private void distanceOne() {
        Row row = new Row(20);
        row.again(0, 2);
        row.again(5, 2);
        row.again(10, 2);
        row.again(15, 2);
        row.next();
        row.script.spell("M 4=1, R 4=0, match 0=0, match low>001, D 1>0000" + Script.endIn(7));
        int last = row.script.told.get(row.script.told.size() - 1);
        row.script.told.addAll(List.of(last, last, last));
        packsAs("distance 1", row.source(), row.script);
        NarrowingPacker x = new NarrowingPacker(4);
        for (int b : row.source()) {
            x.type(b);
        }
        x.pack();
        int[] due = {1, 3, 1};
        for (int what = 0; what < 3; what++) {
            checks.same("the last packet", x.packet(x.packets() - 1, what), due[what]);
        }
    }

    /** Two distances of one slot, or of two: each slot's row learns for itself. */
    private void slotsTogether() {
        int[] distances = {1, 2, 4, 5, 6, 7, 8, 9, 12, 13, 16, 17, 24, 25, 32, 33, 48, 49, 64, 65};
        for (int one : distances) {
            for (int other : distances) {
                Script script = new Script();
                for (int k = 0; k < 66; k++) {
                    script.literal(k * 3);
                }
                script.match(2, one).match(3, other).match(2, one).match(3, other).end();
                unpacks("distances " + one + " and " + other, script);
            }
        }
    }

    /** A source in the making, with its script: different bytes, then copies of them. */
    private static final class Row {
        private final Script script = new Script();
        private int fresh = 0;

        Row(int many) {
            for (int k = 0; k < many; k++) {
                next();
            }
        }

        /** A byte that was never there. */
        void next() {
            script.literal(fresh * 7 % 256);
            fresh++;
        }

        void again(int from, int length) {
            script.match(length, script.told.size() - from);
        }

        /** The last byte some times more: 1 is among the last distances. */
        void more(int length) {
            int k = 0;
            while (script.last[k] != 1) {
                k++;
            }
            script.echo(k, length);
        }

        int[] source() {
            return script.toldBytes();
        }
    }
}
