import java.util.Arrays;
import java.util.List;

/** Promises 4 (pack), 5 (packets) and 7 (chance): the packed bytes are those of a script. */
public final class PackTest {
    private final Checks checks = new Checks();

    public static void main(String[] args) {
        PackTest test = new PackTest();
        test.bytesOfTheDocument();
        test.emptySource();
        test.eachKindOfPacket();
        test.lengthsOfEachTree();
        test.distancesOfEachSlot();
        test.carriesGoUp();
        test.sourceStaysAndPackedGoes();
        test.packetsStay();
        test.fullSources();
        test.longestListOfPackets();
        test.chances();
        test.nothingWasPacked();
        test.chancesOnBothSides();
        test.chancesStay();
        test.checks.end("PackTest");
    }

    private NarrowingPacker packedAs(String text, Script due) {
        NarrowingPacker x = new NarrowingPacker(16);
        Checks.typeAll(x, text);
        int[] bytes = due.bytes();
        checks.same("pack() of " + text, x.pack(), bytes.length);
        checks.same("bytes of " + text,
                Arrays.toString(Checks.packedBytes(x)), Arrays.toString(bytes));
        return x;
    }

    /** Bytes that are known from the runs given with the document, so that the script is held, too. */
    private void bytesOfTheDocument() {
        NarrowingPacker x = packedAs("abcabcabcabd",
                new Script().literal('a').literal('b').literal('c').match(8, 3).literal('d').end());
        checks.same("size()", x.size(), 10);
        checks.same("at(0)", x.at(0), 48);
        checks.same("at(2)", x.at(2), 77);
        checks.same("at(4)", x.at(4), 167);
    }

    private void emptySource() {
        NarrowingPacker x = packedAs("", new Script().end());
        checks.same("END alone", Arrays.toString(Checks.packedBytes(x)), "[131, 191, 252, 0, 0]");
        checks.same("packets()", x.packets(), 0);
    }

    private void eachKindOfPacket() {
        packedAs("aa", new Script().literal('a').shortly().end());
        packedAs("aaa", new Script().literal('a').echo(0, 2).end());
        packedAs("abab", new Script().literal('a').literal('b').match(2, 2).end());
        packedAs("abba", new Script().literal('a').literal('b').shortly().literal('a').end());
        Script four = new Script().literal('a').literal('b').literal('c').literal('d');
        four.match(4, 4).literal('e').match(2, 2).literal('f').echo(1, 3).end();
        packedAs("abcdabcdedefede", four);
    }

    private void lengthsOfEachTree() {
        for (int length : new int[] {2, 3, 4, 9, 10, 11, 17, 18, 19, 33, 100, 119}) {
            packedAs("a".repeat(1 + length), new Script().literal('a').echo(0, length).end());
        }
        for (int length : new int[] {2, 3, 4, 5, 9, 10, 11, 17, 18, 19, 33, 100, 118}) {
            String text = "ab".repeat(60).substring(0, 2 + length);
            packedAs(text, new Script().literal('a').literal('b').match(length, 2).end());
        }
    }

    /** Different bytes, then the first two once more: a match of every distance there can be. */
    private void distancesOfEachSlot() {
        for (int d = 2; d <= 118; d++) {
            StringBuilder text = new StringBuilder();
            Script script = new Script();
            for (int k = 0; k < d; k++) {
                text.append((char) (100 + k));
                script.literal(100 + k);
            }
            text.append((char) 100).append((char) 101);
            packedAs(text.toString(), script.match(2, d).end());
        }
    }

    /** 255 again and again keeps LOW just below the next digit, so that a carry goes far. */
    private void carriesGoUp() {
        int ups = 0;
        for (int first = 0; first < 256; first++) {
            NarrowingPacker x = new NarrowingPacker(1);
            Reference due = new Reference(1);
            for (int b : new int[] {first, 255, 1, 255, 2, 255, 3, 254, 255, 253}) {
                x.type(b);
                due.type(b);
            }
            checks.same("pack()", x.pack(), due.pack());
            for (int i = 0; i < x.size(); i++) {
                checks.same("at(" + i + ")", x.at(i), due.at(i));
                ups += x.at(i) == 0 ? 1 : 0;
            }
        }
        checks.yes("some digits went over to 0", ups > 0);
    }

    private void sourceStaysAndPackedGoes() {
        NarrowingPacker x = new NarrowingPacker(3);
        for (int k = 0; k < 200; k++) {
            x.add(9);
        }
        Checks.typeAll(x, "abcabcabcabd");
        checks.same("pack()", x.pack(), 10);
        checks.same("size()", x.size(), 10);
        checks.same("at(10)", x.at(10), -1);
        String first = Checks.snapshot(x);
        checks.same("pack() again", x.pack(), 10);
        checks.same("all of it", Checks.snapshot(x), first);
        checks.same("wipe()", x.wipe(), 12);
    }

    /** Promise 5. */
    private void packetsStay() {
        NarrowingPacker x = new NarrowingPacker(4);
        checks.same("packets() before", x.packets(), 0);
        Checks.typeAll(x, "abcabcabcabd");
        checks.same("packets() before", x.packets(), 0);
        x.pack();
        checks.same("packets()", x.packets(), 5);
        String packets = Checks.packetsOf(x);
        checks.same("the packets", packets, "L97 L98 L99 M8@3 L100");
        for (Runnable change : changes(x)) {
            change.run();
            checks.same("packets() behind a change", x.packets(), 5);
            checks.same("the packets behind a change", Checks.packetsOf(x), packets);
        }
        x.wipe();
        x.pack();
        checks.same("packets() of nothing", x.packets(), 0);
        checks.same("packet(0, 0) of nothing", x.packet(0, 0), -1);
    }

    /** Calls that change source, packed bytes and result, but pack nothing. */
    private static List<Runnable> changes(NarrowingPacker x) {
        return List.of(
                () -> x.type(3),
                () -> x.unpack(),
                () -> x.wipe(),
                () -> Checks.typeAll(x, "xyz"),
                () -> x.put(2, 17),
                () -> Checks.outcome(x::unpack),
                () -> x.add(4),
                () -> x.cut(1),
                () -> x.cut(0),
                () -> Checks.addAll(x, new Script().literal(1).literal(2).shortly().end().bytes()),
                () -> x.unpack());
    }

    /** No source can need more than 200 bytes; those that are dearest stay well below. */
    private void fullSources() {
        for (int seed = 0; seed < 50; seed++) {
            NarrowingPacker x = new NarrowingPacker(16);
            java.util.Random random = new java.util.Random(seed);
            int[] typed = random.ints(120, 0, 256).toArray();
            for (int b : typed) {
                x.type(b);
            }
            int size = x.pack();
            checks.yes("between 120 and 150 bytes", size > 120 && size < 150);
            checks.same("unpack()", x.unpack(), 120);
            checks.yes("the same bytes", Arrays.equals(Checks.resultBytes(x), typed));
        }
    }

    /** As many packets as the source can have bytes; then none, then one. */
    private void longestListOfPackets() {
        NarrowingPacker x = new NarrowingPacker(1);
        for (int k = 0; k < 120; k++) {
            x.type(k);
        }
        x.pack();
        checks.same("packets()", x.packets(), 120);
        checks.same("packet(119, 2)", x.packet(119, 2), 119);
        checks.same("packet(120, 2)", x.packet(120, 2), -1);
        x.wipe();
        checks.same("packets() behind wipe()", x.packets(), 120);
        x.pack();
        checks.same("packets() of nothing", x.packets(), 0);
        checks.same("packet(0, 0) of nothing", x.packet(0, 0), -1);
        x.type(0);
        checks.same("packets() behind type()", x.packets(), 0);
        x.pack();
        checks.same("packets() of one", x.packets(), 1);
        checks.same("packet(1, 0) of one", x.packet(1, 0), -1);
    }

    /** Promises 5 to 7: unpacking, adding and typing pack nothing. */
    private void nothingWasPacked() {
        NarrowingPacker x = new NarrowingPacker(4);
        Checks.typeAll(x, "abab");
        Checks.addAll(x, new Script().literal(1).literal(2).end().bytes());
        checks.same("unpack()", x.unpack(), 2);
        checks.same("packets()", x.packets(), 0);
        checks.same("packet(0, 0)", x.packet(0, 0), -1);
        for (int k = 0; k < 72; k++) {
            checks.same("chance(" + k / 12 + ", " + k % 12 + ")", x.chance(k / 12, k % 12), -1);
        }
        x.pack();
        for (int k = 0; k < 72; k++) {
            checks.yes("chance(" + k / 12 + ", " + k % 12 + ")", x.chance(k / 12, k % 12) > 0);
        }
    }

    private void chancesOnBothSides() {
        NarrowingPacker x = new NarrowingPacker(4);
        x.pack();
        int[] wrong = {Integer.MIN_VALUE, -12, -1};
        int[] right = {0, 5, 11};
        for (int name : new int[] {-1, 6, 7, Integer.MIN_VALUE, Integer.MAX_VALUE}) {
            for (int state : right) {
                checks.same("chance(" + name + ", " + state + ")", x.chance(name, state), -1);
            }
        }
        for (int name = 0; name < 6; name++) {
            for (int state : wrong) {
                checks.same("chance(" + name + ", " + state + ")", x.chance(name, state), -1);
            }
            for (int state : new int[] {12, 13, 72, Integer.MAX_VALUE}) {
                checks.same("chance(" + name + ", " + state + ")", x.chance(name, state), -1);
            }
            checks.yes("chance(" + name + ", 0)", x.chance(name, 0) > 0);
            checks.same("chance(" + name + ", 11)", x.chance(name, 11), 1024);
        }
        // One is wrong, though the place that both would make together is there.
        checks.same("chance(-1, 12)", x.chance(-1, 12), -1);
        checks.same("chance(1, -1)", x.chance(1, -1), -1);
        checks.same("chance(0, 12)", x.chance(0, 12), -1);
        checks.same("chance(6, -12)", x.chance(6, -12), -1);
    }

    /** Promise 7. */
    private void chances() {
        NarrowingPacker x = new NarrowingPacker(4);
        checks.same("chance(0, 0) before", x.chance(0, 0), -1);
        x.pack();
        // END alone: 1 [M 0], 0 [R 0].
        checks.same("chance(0, 0)", x.chance(0, 0), 1024 - 32);
        checks.same("chance(1, 0)", x.chance(1, 0), 1024 + 32);
        checks.same("chance(2, 0)", x.chance(2, 0), 1024);
        checks.same("chance(5, 11)", x.chance(5, 11), 1024);
        Script script = new Script().literal('a').literal('b').literal('c').literal('d');
        script.match(4, 4).literal('e').match(2, 2).literal('f').echo(1, 3).end();
        NarrowingPacker y = packedAs("abcdabcdedefede", script);
        for (int name = 0; name < 6; name++) {
            for (int state = 0; state < 12; state++) {
                String word = "MRASBC".charAt(name) + " " + state;
                checks.same("chance of " + word, y.chance(name, state), script.chance(word));
            }
        }
    }

    /** Nothing but pack() learns. */
    private void chancesStay() {
        NarrowingPacker x = new NarrowingPacker(4);
        Checks.typeAll(x, "aaaabaaab");
        x.pack();
        checks.yes("learned", x.chance(0, 0) != 1024);
        String before = chancesOf(x);
        for (Runnable change : changes(x)) {
            change.run();
            checks.same("the chances behind a change", chancesOf(x), before);
        }
        x.wipe();
        x.pack();
        checks.same("chance(0, 0) of nothing", x.chance(0, 0), 1024 - 32);
        checks.same("chance(2, 0) of nothing", x.chance(2, 0), 1024);
    }

    private static String chancesOf(NarrowingPacker x) {
        StringBuilder text = new StringBuilder();
        for (int k = 0; k < 72; k++) {
            text.append(x.chance(k / 12, k % 12)).append(' ');
        }
        return text.toString();
    }
}
