/** Promise 6 (packet), and CHOOSING, which it shows. */
public final class ChoosingTest {
    private final Checks checks = new Checks();

    public static void main(String[] args) {
        ChoosingTest test = new ChoosingTest();
        test.literalsAndShorts();
        test.shortsAreOfR0Alone();
        test.matches();
        test.longestMatchCounts();
        test.ofSeveralMatchesTheNearest();
        test.limits();
        test.echoes();
        test.lastDistanceNotAboveI();
        test.longestEchoCounts();
        test.ofSeveralEchoesTheLeastK();
        test.echoOfTwoBytesOrMore();
        test.echoAgainstMatch();
        test.upToTheSourcesEnd();
        test.placesThatThePacketTells();
        test.whatIsTold();
        test.noneOnBothSides();
        test.checks.end("ChoosingTest");
    }

    private void chosen(int limit, String text, String due) {
        NarrowingPacker x = new NarrowingPacker(limit);
        Checks.typeAll(x, text);
        x.pack();
        checks.same("packets of " + text + " with limit " + limit, Checks.packetsOf(x), due);
    }

    private void literalsAndShorts() {
        chosen(4, "", "");
        chosen(4, "a", "L97");
        chosen(4, "ab", "L97 L98");
        chosen(4, "aa", "L97 S1");
        chosen(4, "aab", "L97 S1 L98");
        chosen(4, "aba", "L97 L98 L97");
        chosen(4, "aabb", "L97 S1 L98 S1");
        // Behind the match R0 is 2: the last d stands two places behind one.
        chosen(4, "ababdcd", "L97 L98 M2@2 L100 L99 S2");
    }

    /** R1 is 1, and the byte one place before is the next one: no short tells it. */
    private void shortsAreOfR0Alone() {
        chosen(4, "ababb", "L97 L98 M2@2 L98");
        chosen(4, "aabaaa", "L97 S1 L98 M2@3 L97");
    }

    private void matches() {
        chosen(4, "abab", "L97 L98 M2@2");
        chosen(4, "abcbc", "L97 L98 L99 M2@2");
        // The nearest place that there can be, none of R0 .. R3 being 1 any more.
        chosen(4, "abcdefghijabdeghbcxzzz", "L97 L98 L99 L100 L101 L102 L103 L104 L105 L106"
                + " M2@10 M2@9 M2@8 M2@15 L120 L122 M2@1");
        // The farthest one: the first two of 118 different bytes.
        String many = different(118);
        NarrowingPacker x = new NarrowingPacker(1);
        Checks.typeAll(x, many + many.substring(0, 2));
        x.pack();
        checks.same("the farthest: packets()", x.packets(), 119);
        checks.same("the farthest: its distance", x.packet(118, 2), 118);
        checks.same("the farthest: its bytes", x.packet(118, 1), 2);
    }

    private static String different(int many) {
        StringBuilder text = new StringBuilder();
        for (int k = 0; k < many; k++) {
            text.append((char) (k + 100));
        }
        return text.toString();
    }

    /** The place with three bytes is the farthest, the middle one, the nearest. */
    private void longestMatchCounts() {
        chosen(4, "abcxabyabc", "L97 L98 L99 L120 M2@4 L121 M3@7");
        chosen(4, "abxabcyabzabc", "L97 L98 L120 M2@3 L99 L121 M2@4 L122 M3@7");
        chosen(4, "xabyabzzabcqqqabc",
                "L120 L97 L98 L121 M2@3 L122 L122 M2@4 L99 L113 E2@1 M3@6");
    }

    private void ofSeveralMatchesTheNearest() {
        chosen(4, "aaabaa", "L97 E2@1 L98 M2@3");
        chosen(4, "abxabyyabz", "L97 L98 L120 M2@3 L121 L121 M2@4 L122");
        // Two of the three places have three bytes.
        chosen(4, "abcdabceabfabc", "L97 L98 L99 L100 M3@4 L101 E2@4 L102 M3@7");
    }

    /** The c nearest are tried; a place that has but one byte of the two is none of them. */
    private void limits() {
        chosen(1, "abcxabyabc", "L97 L98 L99 L120 M2@4 L121 M2@3 L99");
        chosen(2, "abcxabyabc", "L97 L98 L99 L120 M2@4 L121 M3@7");
        chosen(1, "aaabaaa", "L97 E2@1 L98 M2@3 L97");
        chosen(2, "aaabaaa", "L97 E2@1 L98 M3@4");
        chosen(1, "aabaa", "L97 S1 L98 M2@3");
        chosen(1, "abaab", "L97 L98 L97 M2@3");
        // An echo needs no place that was tried.
        chosen(1, "aabbaaabaa", "L97 S1 L98 S1 M2@4 M2@5 E2@4");
    }

    private void echoes() {
        chosen(1, "aaa", "L97 E2@1");
        chosen(1, "a".repeat(120), "L97 E119@1");
        // R1 is 1 still when R0 has become 2.
        chosen(4, "ababccc", "L97 L98 M2@2 L99 E2@1");
        // Which made R0 1 and R1 2.
        chosen(4, "ababcccxcx", "L97 L98 M2@2 L99 E2@1 L120 E2@2");
        // R1, R2 and R3 alone.
        chosen(4, "babaabcbacb", "L98 L97 M2@2 M2@3 L99 M2@5 E2@3");
        chosen(4, "babaabbacac", "L98 L97 M2@2 M2@3 M2@4 L99 E2@2");
        chosen(4, "cbacbcbbaaa", "L99 L98 L97 M2@3 M2@2 M2@6 E2@1");
    }

    /** Rk is 1 at first: above i before the first byte, i itself behind it. */
    private void lastDistanceNotAboveI() {
        for (int b : new int[] {0, 1, 97, 255}) {
            String text = "" + (char) b;
            chosen(4, text, "L" + b);
            chosen(4, text.repeat(2), "L" + b + " S1");
            chosen(4, text.repeat(3), "L" + b + " E2@1");
        }
    }

    /** R0 has two bytes, R1 three. */
    private void longestEchoCounts() {
        chosen(4, "aabbaaabcaab", "L97 S1 L98 S1 M2@4 M2@5 L99 E3@4");
        chosen(4, "aabcaaabbaab", "L97 S1 L98 L99 M2@4 M2@5 L98 E3@4");
    }

    /** Two or three of R0 .. R3, all different, agree in two bytes: which ones stands before. */
    private void ofSeveralEchoesTheLeastK() {
        String[][] rows = {
            {"0 1", "ababbaabacba", "L97 L98 M2@2 M2@3 M3@6 L99 E2@6"},
            {"0 2", "babcabbcbabaab", "L98 L97 L98 L99 M2@3 M2@4 M3@8 L97 E2@8"},
            {"0 3", "babacccbaacbcb", "L98 L97 M2@2 L99 E2@1 M2@5 M2@6 L98 E2@6"},
            {"1 2", "cacabbacbaba", "L99 L97 M2@2 L98 L98 M2@5 M2@3 E2@5"},
            {"1 3", "cbaacbbabbbb", "L99 L98 L97 S1 M2@4 M2@5 M2@3 E2@5"},
            {"2 3", "cbcbbcabbbb", "L99 L98 M2@2 M2@3 L97 M2@4 E2@2"},
            {"0 1 2", "bbbcacbbbbcbbabb", "L98 E2@1 L99 L97 L99 M3@6 M2@7 M2@3 L97 E2@3"},
            {"0 1 3", "cbaacbcaaacbcbaccb",
                "L99 L98 L97 S1 M2@4 L99 M2@5 M4@6 M2@12 L99 E2@12"},
            {"0 2 3", "bbccaaacaacabcaaabaa",
                "L98 S1 L99 S1 L97 E2@1 M3@4 M2@3 M2@11 M3@10 L98 E2@10"},
            {"1 2 3", "acbcbaccaccccb", "L97 L99 L98 M2@2 M2@5 L99 M3@3 E2@5 L98"}
        };
        for (String[] row : rows) {
            chosen(4, row[1], row[2]);
        }
        // All four are 1: that it was echo 0, [A 0] and [S 0] tell.
        NarrowingPacker x = new NarrowingPacker(4);
        Checks.typeAll(x, "aaa");
        x.pack();
        checks.same("0 [A 0]", x.chance(2, 0), 1024 + 32);
        checks.same("1 [S 0]", x.chance(3, 0), 1024 - 32);
        checks.same("no [B 0]", x.chance(4, 0), 1024);
        // R1 .. R3 are 1: that it was echo 1, [B 7] tells.
        NarrowingPacker y = new NarrowingPacker(4);
        Checks.typeAll(y, "ababbb");
        y.pack();
        checks.same("1 [A 7]", y.chance(2, 7), 1024 - 32);
        checks.same("0 [B 7]", y.chance(4, 7), 1024 + 32);
        checks.same("no [C 7]", y.chance(5, 7), 1024);
    }

    private void echoOfTwoBytesOrMore() {
        chosen(4, "aab", "L97 S1 L98");
        chosen(4, "aaab", "L97 E2@1 L98");
    }

    private void echoAgainstMatch() {
        // As long as the match: the echo is taken.
        chosen(4, "abxcabyxabz", "L97 L98 L120 L99 M2@4 L121 L120 E2@4 L122");
        chosen(4, "aababcaaaa", "L97 S1 L98 M2@2 L99 M2@6 E2@2");
        // One byte shorter: the match is.
        chosen(4, "aabaaaab", "L97 S1 L98 M2@3 M3@5");
        chosen(4, "aabzaqzaaab", "L97 S1 L98 L122 L97 L113 M2@3 M3@8");
        // As long as the match that the limit leaves, and longer.
        chosen(1, "aabzaqzaaab", "L97 S1 L98 L122 L97 L113 M2@3 E2@1 L98");
        chosen(1, "aabbaaabaaa", "L97 S1 L98 S1 M2@4 M2@5 E3@4");
        chosen(1, "aabbaaacaaa", "L97 S1 L98 S1 M2@4 L97 L99 E3@4");
    }

    /** Two bytes left are a match or an echo, one is not. */
    private void upToTheSourcesEnd() {
        chosen(4, "abcabc", "L97 L98 L99 M3@3");
        chosen(4, "abcab", "L97 L98 L99 M2@3");
        chosen(4, "abca", "L97 L98 L99 L97");
        chosen(4, "aaaa", "L97 E3@1");
        chosen(4, "aaa", "L97 E2@1");
        chosen(4, "aa", "L97 S1");
        String full = "ab".repeat(60);
        chosen(4, full, "L97 L98 M118@2");
        chosen(4, full.substring(0, 119), "L97 L98 M117@2");
    }

    private void placesThatThePacketTells() {
        chosen(4, "ababa", "L97 L98 M3@2");
        chosen(4, "abcabcabcabcab", "L97 L98 L99 M11@3");
        chosen(4, "abcabcabcabd", "L97 L98 L99 M8@3 L100");
    }

    /** Promise 6: every kind, and what is none. */
    private void whatIsTold() {
        NarrowingPacker x = new NarrowingPacker(4);
        checks.same("packet(0, 0) before", x.packet(0, 0), -1);
        Checks.typeAll(x, "ababdcdaaa");
        x.pack();
        int[][] due = {{0, 1, 97}, {0, 1, 98}, {1, 2, 2}, {0, 1, 100}, {0, 1, 99}, {3, 1, 2}};
        for (int i = 0; i < due.length; i++) {
            for (int what = 0; what < 3; what++) {
                checks.same("packet(" + i + ", " + what + ")", x.packet(i, what), due[i][what]);
            }
        }
        int last = x.packets() - 1;
        checks.same("an echo", x.packet(last, 0), 2);
        checks.same("its bytes", x.packet(last, 1), 2);
        checks.same("its distance", x.packet(last, 2), 1);
    }

    private void noneOnBothSides() {
        NarrowingPacker x = new NarrowingPacker(4);
        none(x, -1, 0);
        none(x, 0, 0);
        Checks.typeAll(x, "ababdcdaaa");
        none(x, 0, 0);
        x.pack();
        int last = x.packets() - 1;
        checks.yes("the last one is there", x.packet(last, 0) != -1);
        for (int what = 0; what <= 2; what++) {
            none(x, -1, what);
            none(x, last + 1, what);
            none(x, 119, what);
            none(x, 120, what);
            none(x, Integer.MIN_VALUE, what);
            none(x, Integer.MAX_VALUE, what);
        }
        for (int i = 0; i <= last; i++) {
            none(x, i, -1);
            none(x, i, 3);
            none(x, i, 4);
            none(x, i, Integer.MIN_VALUE);
            none(x, i, Integer.MAX_VALUE);
        }
    }

    private void none(NarrowingPacker x, int i, int what) {
        checks.same("packet(" + i + ", " + what + ")", x.packet(i, what), -1);
    }
}
