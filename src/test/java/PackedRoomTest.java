import java.io.IOException;
import java.lang.reflect.InvocationTargetException;
import java.lang.reflect.Method;
import java.nio.file.Files;
import java.nio.file.Path;

/**
 * "IllegalState: it would be more than 200" (promise 4). A calculation shows that no source can need
 * so many; so that the throw is met all the same, the class is compiled once more with a room of 20.
 */
public final class PackedRoomTest {
    private static final String ROOM = "PACKED_ROOM = 200;";
    private static final int NARROW = 20;

    private final Checks checks = new Checks();
    private Class<?> narrowClass;

    public static void main(String[] args) throws Exception {
        PackedRoomTest test = new PackedRoomTest();
        test.noSourceNeedsMore();
        try (Compiling narrow = new Compiling("NarrowingPacker", test.narrowText(), null)) {
            test.narrowClass = narrow.made;
            test.roomIsKept();
        }
        test.checks.end("PackedRoomTest");
    }

    /**
     * A byte costs 9 bits at most (a literal), END 10. The dearest bits that one chance can meet are
     * found for every count of them; N is at most an eighth of all their cost.
     */
    private void noSourceNeedsMore() {
        int bits = 9 * 120 + 10;
        double[] dearest = new double[2049];
        double worst = 0;
        for (int count = 1; count <= bits; count++) {
            double[] longer = new double[2049];
            for (int p = 31; p <= 2017; p++) {
                double zero = cost(p) + dearest[p + (2048 - p) / 32];
                double one = cost(2048 - p) + dearest[p - p / 32];
                longer[p] = Math.max(zero, one);
            }
            dearest = longer;
            worst = Math.max(worst, dearest[1024] / count);
        }
        double bytes = bits * worst / 8 + 4;
        checks.yes("more than half the room may be needed", bytes > 100);
        checks.yes("never more than 150 bytes: " + bytes, bytes < 150);
    }

    /** In bits; what range >> 11 drops, less than 2^11 of 2^24, makes it a little dearer. */
    private static double cost(int p) {
        return -Math.log(p / 2048.0 * (1 - 1 / 8192.0)) / Math.log(2);
    }

    private String narrowText() throws IOException {
        String text = Files.readString(Path.of("src/main/java/NarrowingPacker.java"));
        checks.same("the room stands once", text.split(ROOM, -1).length, 2);
        return text.replace(ROOM, "PACKED_ROOM = " + NARROW + ";");
    }

    /** Of 19, 20 and 21 bytes the last are too many. */
    private void roomIsKept() throws ReflectiveOperationException {
        boolean[] met = new boolean[64];
        for (int n = 0; n < 40; n++) {
            met[packs(n)] = true;
        }
        for (int size = NARROW - 1; size <= NARROW + 1; size++) {
            checks.yes("met: " + size + " bytes", met[size]);
        }
    }

    /** How many bytes the packing of n different bytes makes where there is room. */
    private int packs(int n) throws ReflectiveOperationException {
        NarrowingPacker wide = new NarrowingPacker(4);
        Object narrow = narrowClass.getConstructor(int.class).newInstance(4);
        for (char c : "aab".toCharArray()) {
            call(narrow, "type", (int) c);
        }
        call(narrow, "pack");
        call(narrow, "unpack");
        call(narrow, "wipe");
        call(narrow, "add", 77);
        for (int k = 0; k < n; k++) {
            wide.type(k * 91 % 256);
            call(narrow, "type", k * 91 % 256);
        }
        String before = snapshot(narrow);
        int size = wide.pack();
        if (size <= NARROW) {
            checks.same("pack() of " + n, call(narrow, "pack"), "" + size);
            for (int i = 0; i <= size; i++) {
                checks.same("at(" + i + ")", call(narrow, "at", i), "" + wide.at(i));
            }
        } else {
            checks.same("pack() of " + n, call(narrow, "pack"), "IllegalStateException");
            checks.same("everything behind it", snapshot(narrow), before);
            checks.same("pack() again", call(narrow, "pack"), "IllegalStateException");
            checks.same("everything behind it", snapshot(narrow), before);
            checks.same("packets()", call(narrow, "packets"), "3");
        }
        checks.same("the source stays", call(narrow, "wipe"), "" + n);
        checks.same("pack() of nothing", call(narrow, "pack"), "5");
        checks.same("unpack() of it", call(narrow, "unpack"), "0");
        return size;
    }

    private static String call(Object x, String name, int... args)
            throws ReflectiveOperationException {
        Class<?>[] types = new Class<?>[args.length];
        Object[] values = new Object[args.length];
        for (int k = 0; k < args.length; k++) {
            types[k] = int.class;
            values[k] = args[k];
        }
        Method method = x.getClass().getMethod(name, types);
        try {
            return "" + method.invoke(x, values);
        } catch (InvocationTargetException e) {
            return e.getCause().getClass().getSimpleName();
        }
    }

    private static String snapshot(Object x) throws ReflectiveOperationException {
        StringBuilder text = new StringBuilder();
        text.append(call(x, "size")).append(' ').append(call(x, "told")).append(' ');
        text.append(call(x, "packets")).append('\n');
        for (int i = -1; i <= 40; i++) {
            text.append(call(x, "at", i)).append(' ').append(call(x, "byteAt", i)).append(' ');
            for (int what = 0; what < 3; what++) {
                text.append(call(x, "packet", i, what)).append(' ');
            }
        }
        for (int k = 0; k < 72; k++) {
            text.append(call(x, "chance", k / 12, k % 12)).append(' ');
        }
        return text.toString();
    }
}
