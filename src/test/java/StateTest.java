import java.util.Arrays;
import java.util.Random;
import java.util.Set;
import java.util.TreeSet;

/** The STATE: each case behind each packet, when packing (chance() tells it) and when unpacking. */
public final class StateTest {
    private static final String KINDS = "LMES";

    /** The document's sentence as a table: behind a packet of the kind, met in the state. */
    private static final int[][] BEHIND = {
        {0, 0, 0, 0, 1, 2, 3, 4, 5, 6, 4, 5},
        {7, 7, 7, 7, 7, 7, 7, 10, 10, 10, 10, 10},
        {8, 8, 8, 8, 8, 8, 8, 11, 11, 11, 11, 11},
        {9, 9, 9, 9, 9, 9, 9, 11, 11, 11, 11, 11}
    };

    /** Sources, and the packets that are due (of an echo with its k), each with its state. */
    private static final String[][] PACKINGS = {
        {"a", "L/0 END/0"},
        {"ababbca", "L/0 L/0 M/0 L/7 L/4 L/1 END/0"},
        {"aaabac", "L/0 E0/0 L/8 L/5 L/2 END/0"},
        {"aabac", "L/0 S/0 L/9 L/6 L/3 END/0"},
        {"ababbc", "L/0 L/0 M/0 L/7 L/4 END/1"},
        {"aaaba", "L/0 E0/0 L/8 L/5 END/2"},
        {"aaba", "L/0 S/0 L/9 L/6 END/3"},
        {"ababb", "L/0 L/0 M/0 L/7 END/4"},
        {"aaab", "L/0 E0/0 L/8 END/5"},
        {"aab", "L/0 S/0 L/9 END/6"},
        {"abbaba", "L/0 L/0 S/0 M/9 L/10 END/4"},
        {"ababbba", "L/0 L/0 M/0 E1/7 L/11 END/5"},
        {"abab", "L/0 L/0 M/0 END/7"},
        {"ababbcab", "L/0 L/0 M/0 L/7 L/4 M/1 END/7"},
        {"aaabcaa", "L/0 E0/0 L/8 L/5 M/2 END/7"},
        {"aabcaa", "L/0 S/0 L/9 L/6 M/3 END/7"},
        {"ababcab", "L/0 L/0 M/0 L/7 M/4 END/7"},
        {"aaabaa", "L/0 E0/0 L/8 M/5 END/7"},
        {"aabaa", "L/0 S/0 L/9 M/6 END/7"},
        {"ababba", "L/0 L/0 M/0 M/7 END/10"},
        {"abbbab", "L/0 L/0 E0/0 M/8 END/10"},
        {"abbab", "L/0 L/0 S/0 M/9 END/10"},
        {"abbabab", "L/0 L/0 S/0 M/9 M/10 END/10"},
        {"ababbbab", "L/0 L/0 M/0 E1/7 M/11 END/10"},
        {"aaa", "L/0 E0/0 END/8"},
        {"ababbcbc", "L/0 L/0 M/0 L/7 L/4 E0/1 END/8"},
        {"aaabccc", "L/0 E0/0 L/8 L/5 E0/2 END/8"},
        {"aabccc", "L/0 S/0 L/9 L/6 E0/3 END/8"},
        {"ababcbc", "L/0 L/0 M/0 L/7 E0/4 END/8"},
        {"aaabbb", "L/0 E0/0 L/8 E0/5 END/8"},
        {"aabbb", "L/0 S/0 L/9 E0/6 END/8"},
        {"ababbb", "L/0 L/0 M/0 E1/7 END/11"},
        {"ababcbccc", "L/0 L/0 M/0 L/7 E0/4 E1/8 END/11"},
        {"ababcbbb", "L/0 L/0 M/0 L/7 S/4 E1/9 END/11"},
        {"aabbaaaa", "L/0 S/0 L/9 S/6 M/9 E1/10 END/11"},
        {"abacabbbab", "L/0 L/0 L/0 L/0 M/0 E1/7 E1/11 END/11"},
        {"aa", "L/0 S/0 END/9"},
        {"ababbcb", "L/0 L/0 M/0 L/7 L/4 S/1 END/9"},
        {"aaabcc", "L/0 E0/0 L/8 L/5 S/2 END/9"},
        {"aabcc", "L/0 S/0 L/9 L/6 S/3 END/9"},
        {"ababcb", "L/0 L/0 M/0 L/7 S/4 END/9"},
        {"aaabb", "L/0 E0/0 L/8 S/5 END/9"},
        {"aabb", "L/0 S/0 L/9 S/6 END/9"},
        {"babaabbacac", "L/0 L/0 M/0 M/7 M/10 L/10 E2/4 END/8"},
        {"cbacbcbbaaa", "L/0 L/0 L/0 M/0 M/7 M/10 E3/10 END/11"},
    };

    private final Checks checks = new Checks();
    private final Set<String> met = new TreeSet<>();

    public static void main(String[] args) {
        StateTest test = new StateTest();
        for (String[] row : PACKINGS) {
            test.packing(row[0], row[1].split(" "));
        }
        test.everyCaseWasPacked();
        for (int kind = 0; kind < 4; kind++) {
            for (int state = 0; state < 12; state++) {
                test.unpacking(kind, state);
            }
        }
        test.checks.end("StateTest");
    }

    private void packing(String source, String[] packets) {
        NarrowingPacker x = new NarrowingPacker(4);
        Checks.typeAll(x, source);
        x.pack();
        checks.same("packets() of " + source, x.packets(), packets.length - 1);
        int[][] due = new int[6][12];
        for (int[] row : due) {
            Arrays.fill(row, 1024);
        }
        for (int i = 0; i < packets.length; i++) {
            learn(due, packets[i]);
            if (i < packets.length - 1) {
                kindAndState(x, i, packets[i], packets[i + 1]);
            }
        }
        for (int name = 0; name < 6; name++) {
            for (int state = 0; state < 12; state++) {
                checks.same(source + ": chance(" + name + ", " + state + ")",
                        x.chance(name, state), due[name][state]);
            }
        }
    }

    private void kindAndState(NarrowingPacker x, int i, String packet, String next) {
        int kind = KINDS.indexOf(packet.charAt(0));
        checks.same("packet(" + i + ", 0)", x.packet(i, 0), kind);
        checks.same("the state behind " + packet, stateOf(next), BEHIND[kind][stateOf(packet)]);
        met.add(packet.charAt(0) + "/" + stateOf(packet));
    }

    private static int stateOf(String packet) {
        return Integer.parseInt(packet.substring(packet.indexOf('/') + 1));
    }

    /** The bits of the packet whose chances bear a state, in the order of chance(): M R A S B C. */
    private static void learn(int[][] chances, String packet) {
        int state = stateOf(packet);
        String bits = bitsOf(packet.substring(0, packet.indexOf('/')));
        for (int name = 0; name < bits.length(); name++) {
            int p = chances[name][state];
            if (bits.charAt(name) == '0') {
                chances[name][state] = p + (2048 - p) / 32;
            } else if (bits.charAt(name) == '1') {
                chances[name][state] = p - p / 32;
            }
        }
    }

    private static String bitsOf(String packet) {
        switch (packet) {
            case "L": return "0";
            case "S": return "1100";
            case "E0": return "1101";
            case "E1": return "111-0";
            case "E2": return "111-10";
            case "E3": return "111-11";
            default: return "10"; // a match and END
        }
    }

    /** Behind a copy no short is chosen: the copy would have told its byte, too. */
    private void everyCaseWasPacked() {
        for (int state = 0; state < 12; state++) {
            for (char kind : KINDS.toCharArray()) {
                boolean due = kind != 'S' || state < 7;
                checks.same("packed " + kind + "/" + state, met.contains(kind + "/" + state), due);
            }
        }
    }

    /**
     * Behind the packet comes END, with a chance [M s] that no other state has by then: had the
     * packet led to another state, CODE would not end as 0.
     */
    private void unpacking(int kind, int state) {
        int behind = BEHIND[kind][state];
        Script script = trained(kind, state, behind);
        checks.same("the script's state", script.s, behind);
        script.end();
        String call = "unpack() of " + KINDS.charAt(kind) + " in state " + state;
        NarrowingPacker x = new NarrowingPacker(4);
        Checks.addAll(x, script.bytes());
        checks.same(call, Checks.outcome(x::unpack), "nothing");
        checks.same(call, Arrays.toString(Checks.resultBytes(x)),
                Arrays.toString(script.toldBytes()));
    }

    private static Script trained(int kind, int state, int behind) {
        for (int seed = 0; seed < 100_000; seed++) {
            Random random = new Random(seed);
            Script script = new Script().literal(random.nextInt(256));
            int many = 30 + random.nextInt(20);
            for (int k = 0; k < many; k++) {
                give(script, random.nextInt(4), random);
            }
            if (script.s == state) {
                give(script, kind, random);
                if (script.told.size() <= 120 && isAlone(script, behind)) {
                    return script;
                }
            }
        }
        throw new IllegalStateException("no such run of packets was found");
    }

    private static void give(Script script, int kind, Random random) {
        int length = 2 + random.nextInt(2);
        switch (kind) {
            case 0: script.literal(random.nextInt(256)); break;
            case 1: script.match(length, 1 + random.nextInt(script.told.size())); break;
            case 2: script.echo(random.nextInt(4), length); break;
            default: script.shortly();
        }
    }

    private static boolean isAlone(Script script, int state) {
        int same = 0;
        for (int other = 0; other < 12; other++) {
            same += script.chance("M " + other) == script.chance("M " + state) ? 1 : 0;
        }
        return same == 1;
    }
}
