import java.util.Map;
import java.util.Random;
import java.util.TreeMap;
import java.util.function.IntSupplier;

/** All promises: long runs of calls, each answer compared with the reference's. */
public final class AgainstReferenceTest {
    private static final int RUNS = 1200;
    private static final int CALLS = 512;

    private final Checks checks = new Checks();
    private final Map<String, Integer> met = new TreeMap<>();
    private Random random;
    private NarrowingPacker x;
    private Reference due;

    public static void main(String[] args) {
        AgainstReferenceTest test = new AgainstReferenceTest();
        for (int run = 0; run < RUNS; run++) {
            test.run(run);
        }
        test.everythingWasMet();
        test.checks.end("AgainstReferenceTest");
    }

    private void run(int seed) {
        random = new Random(seed);
        int limit = random.nextInt(22) - 2;
        x = new NarrowingPacker(limit);
        due = new Reference(limit);
        int alphabet = 1 + random.nextInt(random.nextInt(4) == 0 ? 256 : 6);
        int calls = 0;
        while (calls < CALLS) {
            calls += step(alphabet);
        }
        due.met.forEach((what, times) -> met.merge(what, times, Integer::sum));
    }

    /** Some calls of one sort; how many. */
    private int step(int alphabet) {
        switch (random.nextInt(12)) {
            case 0:
            case 1:
                return type(alphabet);
            case 2:
                same("wipe", () -> x.wipe(), () -> due.wipe());
                return 1;
            case 3:
            case 4:
                return packAndLook();
            case 5:
                return put();
            case 6:
                return add();
            case 7:
                int n = random.nextInt(6) == 0 ? random.nextInt(10) - 2 : x.size() - random.nextInt(3);
                same("cut", () -> x.cut(n), () -> due.cut(n));
                return 1;
            case 8:
                return forge();
            default:
                return unpackAndLook();
        }
    }

    private int type(int alphabet) {
        int many = 1 + random.nextInt(60);
        int spread = 256 / alphabet;
        for (int k = 0; k < many; k++) {
            int b = random.nextInt(100) == 0
                    ? random.nextInt(400) - 70 : random.nextInt(alphabet) * spread;
            same("type", () -> x.type(b) ? 1 : 0, () -> due.type(b) ? 1 : 0);
        }
        return many;
    }

    private int packAndLook() {
        same("pack", () -> x.pack(), () -> due.pack());
        same("packets", () -> x.packets(), () -> due.packets());
        compareAll();
        return 2 + 20;
    }

    /** More looks than an object has calls, but looking changes nothing. */
    private void compareAll() {
        for (int i = -1; i <= due.size(); i++) {
            int place = i;
            same("at", () -> x.at(place), () -> due.at(place));
        }
        for (int i = 0; i < due.packets() * 3; i++) {
            int place = i;
            same("packet", () -> x.packet(place / 3, place % 3), () -> due.packet(place / 3, place % 3));
        }
        for (int i = 0; i < 72; i++) {
            int place = i;
            same("chance",
                    () -> x.chance(place / 12, place % 12), () -> due.chance(place / 12, place % 12));
        }
        for (int i = -1; i <= due.told(); i++) {
            int place = i;
            same("byteAt", () -> x.byteAt(place), () -> due.byteAt(place));
        }
        same("size", () -> x.size(), () -> due.size());
        same("told", () -> x.told(), () -> due.told());
    }

    private int put() {
        int i = random.nextInt(8) == 0 ? random.nextInt(220) - 10 : random.nextInt(x.size() + 1);
        int b = random.nextInt(280) - 10;
        same("put", () -> x.put(i, b), () -> due.put(i, b));
        return 1;
    }

    private int add() {
        int many = random.nextInt(10) == 0 ? 60 : 1 + random.nextInt(4);
        for (int k = 0; k < many; k++) {
            int b = random.nextInt(270) - 7;
            same("add", () -> x.add(b) ? 1 : 0, () -> due.add(b) ? 1 : 0);
        }
        return many;
    }

    /** Packed bytes of packets that no packing would choose, most of them well. */
    private int forge() {
        Script script = new Script();
        int many = random.nextInt(25);
        for (int k = 0; k < many; k++) {
            forgePacket(script);
        }
        if (random.nextInt(10) > 0) {
            script.end();
        }
        same("cut", () -> x.cut(0), () -> due.cut(0));
        for (int b : script.bytes()) {
            same("add", () -> x.add(b) ? 1 : 0, () -> due.add(b) ? 1 : 0);
        }
        unpackAndLook();
        return script.bytes().length + 3;
    }

    private void forgePacket(Script script) {
        int length = 2 + random.nextInt(random.nextInt(10) == 0 ? 144 : 10);
        int n = script.told.size();
        int far = random.nextInt(60) == 0 ? 128 : Math.min(128, n);
        int kind = n == 0 && random.nextInt(20) > 0 ? 0 : random.nextInt(6);
        if (kind == 1 && far > 0) {
            script.match(length, 1 + random.nextInt(far));
        } else if (kind == 2 || kind == 3) {
            script.echo(random.nextInt(4), length);
        } else if (kind == 4) {
            script.shortly();
        } else if (script.s < 7 || script.last[0] <= n) {
            script.literal(random.nextInt(256));
        }
    }

    private int unpackAndLook() {
        String outcome = same("unpack", () -> x.unpack(), () -> due.unpack());
        met.merge("unpack: " + outcome, 1, Integer::sum);
        compareAll();
        return 1 + 20;
    }

    private String same(String call, IntSupplier got, IntSupplier wanted) {
        String want = answer(wanted);
        checks.same(call, answer(got), want);
        return want.contains("Exception") ? want : "answers";
    }

    private static String answer(IntSupplier call) {
        try {
            return "" + call.getAsInt();
        } catch (RuntimeException e) {
            return e.getClass().getSimpleName();
        }
    }

    /** The runs are worth something only if nothing of the document was passed by. */
    private void everythingWasMet() {
        for (int k = 0; k < 4; k++) {
            wasMet("echo " + k);
        }
        for (int slot = 0; slot <= 13; slot++) {
            wasMet("match slot " + slot);
        }
        for (int state = 0; state < 12; state++) {
            wasMet("literal in state " + state);
            wasMet("match in state " + state);
            wasMet("echo in state " + state);
        }
        // Behind a copy the next byte is never the one at R0: the copy would have told it, too.
        for (int state = 0; state < 7; state++) {
            wasMet("short in state " + state);
        }
        wasMet("more places than the limit");
        wasMet("unpack: answers");
        wasMet("unpack: NoSuchElementException");
        wasMet("unpack: IllegalArgumentException");
        wasMet("unpack: IndexOutOfBoundsException");
        wasMet("unpack: IllegalStateException");
    }

    private void wasMet(String what) {
        checks.yes("met: " + what, met.containsKey(what));
    }
}
