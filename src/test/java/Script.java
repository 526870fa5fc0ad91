import java.math.BigInteger;
import java.util.ArrayList;
import java.util.HashMap;
import java.util.List;
import java.util.Map;

/**
 * Writes packets, also such as no packing makes, by the document's words: chances are held by their
 * names, and LOW is one big number. It shares nothing with the class under test.
 */
final class Script {
    private static final BigInteger BASE = BigInteger.valueOf(256);

    final Map<String, Integer> chances = new HashMap<>();
    final List<Integer> told = new ArrayList<>();
    final int[] last = {1, 1, 1, 1};
    int s;
    /** Through how many digits of 255 the longest carry beyond the last four digits ran. */
    int longestCarry;
    /** Every range that a bit left, before it was perhaps multiplied. */
    final List<Long> ranges = new ArrayList<>();
    private BigInteger low = BigInteger.ZERO;
    private long range = 4294967295L;
    private int digits = 4;

    int chance(String name) {
        return chances.getOrDefault(name, 1024);
    }

    Script bit(String name, int bit) {
        int p = chance(name);
        long b = range / 2048 * p;
        if (bit == 0) {
            range = b;
            chances.put(name, p + (2048 - p) / 32);
        } else {
            raiseLow(b);
            range = range - b;
            chances.put(name, p - p / 32);
        }
        ranges.add(range);
        if (range < 16777216L) {
            range = range * 256;
            low = low.multiply(BASE);
            digits++;
        }
        return this;
    }

    private void raiseLow(long b) {
        BigInteger before = low.shiftRight(32);
        low = low.add(BigInteger.valueOf(b));
        if (!before.equals(low.shiftRight(32))) {
            int ones = before.not().getLowestSetBit();
            longestCarry = Math.max(longestCarry, ones / 8);
        }
    }

    /**
     * Bits as the document tells them: "M 0=1" is the bit 1 with the chance [M 0], "D 2>0110" a tree
     * or a row under D 2, its bits in the order in which they are given.
     */
    Script spell(String parts) {
        for (String part : parts.replaceFirst("^, ", "").split(", ")) {
            int sign = Math.max(part.indexOf('='), part.indexOf('>'));
            String name = part.substring(0, sign);
            String bits = part.substring(sign + 1);
            if (part.charAt(sign) == '=') {
                bit(name, bits.charAt(0) - '0');
            } else {
                bitsUnder(name, bits);
            }
        }
        return this;
    }

    /** END spelled in the state s, to be put behind other bits. */
    static String endIn(int s) {
        return ", M " + s + "=1, R " + s + "=0, match 0=0, match low>000, D 0>1111";
    }

    /** The bits of v as the digits say, each under the name and the digits given before it. */
    private void bitsUnder(String name, String binary) {
        String before = "1";
        for (char c : binary.toCharArray()) {
            bit(name + " " + before, c - '0');
            before += c;
        }
    }

    private static String binary(int v, int bits) {
        String text = "";
        for (int k = 0; k < bits; k++) {
            text = (v >> k & 1) + text;
        }
        return text;
    }

    void tree(String name, int bits, int v) {
        bitsUnder(name, binary(v, bits));
    }

    void row(String name, int bits, int v) {
        bitsUnder(name, new StringBuilder(binary(v, bits)).reverse().toString());
    }

    Script literal(int b) {
        bit("M " + s, 0);
        int q = told.isEmpty() ? 0 : told.get(told.size() - 1) / 64;
        if (s < 7) {
            tree("L " + q + " 0", 8, b);
        } else {
            literalBehindCopy(q, binary(b, 8), binary(told.get(told.size() - last[0]), 8));
        }
        told.add(b);
        s = s < 4 ? 0 : s < 10 ? s - 3 : s - 6;
        return this;
    }

    private void literalBehindCopy(int q, String bits, String likely) {
        String before = "1";
        for (int k = 0; k < 8; k++) {
            boolean asLikely = bits.substring(0, k).equals(likely.substring(0, k));
            int tree = asLikely ? 1 + (likely.charAt(k) - '0') : 0;
            bit("L " + q + " " + tree + " " + before, bits.charAt(k) - '0');
            before += bits.charAt(k);
        }
    }

    Script match(int l, int d) {
        int slot = slotOf(d - 1);
        matchStart(l - 2, slot);
        if (slot >= 4) {
            int rowBits = slot / 2 - 1;
            row("F " + slot, rowBits, (d - 1) % (1 << rowBits));
        }
        copy(l, d);
        System.arraycopy(last.clone(), 0, last, 1, 3);
        last[0] = d;
        s = s < 7 ? 7 : 10;
        return this;
    }

    static int slotOf(int d) {
        if (d < 4) {
            return d;
        }
        int h = Integer.toBinaryString(d).length() - 1;
        return 2 * h + (Integer.toBinaryString(d).charAt(1) - '0');
    }

    /** All of a match up to its slot. */
    Script matchStart(int v, int slot) {
        bit("M " + s, 1);
        bit("R " + s, 0);
        length("match", v);
        tree("D " + Math.min(v, 3), 4, slot);
        return this;
    }

    Script end() {
        return matchStart(0, 15);
    }

    Script echo(int k, int l) {
        bit("M " + s, 1);
        bit("R " + s, 1);
        bit("A " + s, k == 0 ? 0 : 1);
        if (k == 0) {
            bit("S " + s, 1);
        } else {
            bit("B " + s, k == 1 ? 0 : 1);
        }
        if (k >= 2) {
            bit("C " + s, k - 2);
        }
        length("echo", l - 2);
        int d = last[k];
        copy(l, d);
        System.arraycopy(last.clone(), 0, last, 1, k);
        last[0] = d;
        s = s < 7 ? 8 : 11;
        return this;
    }

    Script shortly() {
        bit("M " + s, 1);
        bit("R " + s, 1);
        bit("A " + s, 0);
        bit("S " + s, 0);
        copy(1, last[0]);
        s = s < 7 ? 9 : 11;
        return this;
    }

    private void length(String y, int v) {
        bit(y + " 0", v < 8 ? 0 : 1);
        if (v < 8) {
            tree(y + " low", 3, v);
            return;
        }
        bit(y + " 1", v < 16 ? 0 : 1);
        if (v < 16) {
            tree(y + " mid", 3, v - 8);
        } else {
            tree(y + " high", 7, v - 16);
        }
    }

    /** A distance that reaches too far tells zeros: what unpacks it has thrown by then. */
    private void copy(int l, int d) {
        for (int k = 0; k < l; k++) {
            told.add(d <= told.size() ? told.get(told.size() - d) : 0);
        }
    }

    int[] bytes() {
        int[] bytes = new int[digits];
        BigInteger rest = low;
        for (int k = digits - 1; k >= 0; k--) {
            bytes[k] = rest.mod(BASE).intValue();
            rest = rest.divide(BASE);
        }
        return bytes;
    }

    int[] toldBytes() {
        return told.stream().mapToInt(Integer::intValue).toArray();
    }
}
