/** Promise 6 (packet), and CHOOSING, which it shows. */
public final class ChoosingTest {
    private final Checks checks = new Checks();

    public static void main(String[] args) {
        ChoosingTest test = new ChoosingTest();
        test.literalsAndShorts();
        test.matches();
        test.echoes();
        test.echoAgainstMatch();
        test.limits();
        test.whatIsTold();
        test.checks.end("ChoosingTest");
    }

    private void chosen(int limit, String text, String due) {
        NarrowingPacker x = new NarrowingPacker(limit);
        Checks.typeAll(x, text);
        x.pack();
        checks.same("packets of " + text + " with limit " + limit, Checks.packetsOf(x), due);
    }

    private void literalsAndShorts() {
        chosen(4, "", "");
        chosen(4, "a", "L97");
        chosen(4, "ab", "L97 L98");
        chosen(4, "aa", "L97 S1");
        chosen(4, "aab", "L97 S1 L98");
        chosen(4, "aba", "L97 L98 L97");
        chosen(4, "aabb", "L97 S1 L98 S1");
        // Behind the match R0 is 2: the last d stands two places behind one.
        chosen(4, "ababdcd", "L97 L98 M2@2 L100 L99 S2");
    }

    private void matches() {
        chosen(4, "abab", "L97 L98 M2@2");
        chosen(4, "abcbc", "L97 L98 L99 M2@2");
        // The packet's own bytes count, too, and the source's end ends it.
        chosen(4, "abcabcabcabcab", "L97 L98 L99 M11@3");
        // One byte left agrees with nothing longer than a short can be.
        chosen(4, "abca", "L97 L98 L99 L97");
        // The longest counts ...
        chosen(4, "abcxabyabc", "L97 L98 L99 L120 M2@4 L121 M3@7");
        // ... of several the nearest.
        chosen(4, "abxabyyabz", "L97 L98 L120 M2@3 L121 L121 M2@4 L122");
    }

    private void echoes() {
        chosen(1, "aaa", "L97 E2@1");
        chosen(1, "a".repeat(120), "L97 E119@1");
        // R1 is 1 still when R0 has become 2.
        chosen(4, "ababccc", "L97 L98 M2@2 L99 E2@1");
        // Which made R0 1 and R1 2.
        chosen(4, "ababcccxcx", "L97 L98 M2@2 L99 E2@1 L120 E2@2");
    }

    private void echoAgainstMatch() {
        // As long as the match: the echo is taken.
        chosen(4, "abxcabyxabz", "L97 L98 L120 L99 M2@4 L121 L120 E2@4 L122");
        // Shorter than the match: it is not.
        chosen(4, "aabzaqzaaab", "L97 S1 L98 L122 L97 L113 M2@3 M3@8");
        // Not shorter than the match that the limit leaves.
        chosen(1, "aabzaqzaaab", "L97 S1 L98 L122 L97 L113 M2@3 E2@1 L98");
    }

    private void limits() {
        chosen(1, "abcxabyabc", "L97 L98 L99 L120 M2@4 L121 M2@3 L99");
        chosen(2, "abcxabyabc", "L97 L98 L99 L120 M2@4 L121 M3@7");
    }

    /** Promise 6: every kind, and what is none. */
    private void whatIsTold() {
        NarrowingPacker x = new NarrowingPacker(4);
        checks.same("packet(0, 0) before", x.packet(0, 0), -1);
        Checks.typeAll(x, "ababdcdaaa");
        x.pack();
        int[][] due = {{0, 1, 97}, {0, 1, 98}, {1, 2, 2}, {0, 1, 100}, {0, 1, 99}, {3, 1, 2}};
        for (int i = 0; i < due.length; i++) {
            for (int what = 0; what < 3; what++) {
                checks.same("packet(" + i + ", " + what + ")", x.packet(i, what), due[i][what]);
            }
        }
        int last = x.packets() - 1;
        checks.same("an echo", x.packet(last, 0), 2);
        checks.same("its bytes", x.packet(last, 1), 2);
        checks.same("its distance", x.packet(last, 2), 1);
        for (int wrong : new int[] {-1, last + 1, 120, Integer.MIN_VALUE, Integer.MAX_VALUE}) {
            checks.same("packet(" + wrong + ", 0)", x.packet(wrong, 0), -1);
        }
        for (int wrong : new int[] {-1, 3, 4, Integer.MIN_VALUE, Integer.MAX_VALUE}) {
            checks.same("packet(0, " + wrong + ")", x.packet(0, wrong), -1);
        }
    }
}
