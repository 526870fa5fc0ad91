import java.util.Arrays;

/** What the tests share: it counts the answers that are wrong, and tells them. */
final class Checks {
    private int done;
    private int wrong;

    void same(String call, Object got, Object due) {
        done++;
        if (!got.equals(due)) {
            wrong++;
            System.out.println(call + " answered " + got + ", due is " + due);
        }
    }

    void yes(String what, boolean holds) {
        same(what, holds, true);
    }

    /** The call throws this very class, and the object answers as before. */
    void refused(String call, Class<?> due, NarrowingPacker x, Runnable run) {
        String before = snapshot(x);
        same(call, outcome(run), due.getSimpleName());
        same("everything behind " + call, snapshot(x), before);
    }

    /** The simple name of what the call throws, or "nothing". */
    static String outcome(Runnable run) {
        try {
            run.run();
            return "nothing";
        } catch (RuntimeException e) {
            return e.getClass().getSimpleName();
        }
    }

    /**
     * Everything that the face tells without changing anything, a little beyond the edges too. These
     * are more looks than an object has calls; the class counts none, and CallsTest keeps to 512.
     */
    static String snapshot(NarrowingPacker x) {
        StringBuilder text = new StringBuilder();
        text.append("size ").append(x.size()).append(" told ").append(x.told());
        text.append(" packets ").append(x.packets()).append('\n');
        for (int i = -1; i <= 201; i++) {
            text.append(x.at(i)).append(' ').append(x.byteAt(i)).append(' ');
        }
        for (int i = -1; i <= 121; i++) {
            for (int what = -1; what <= 3; what++) {
                text.append(x.packet(i, what)).append(' ');
            }
        }
        for (int name = -1; name <= 6; name++) {
            for (int state = -1; state <= 12; state++) {
                text.append(x.chance(name, state)).append(' ');
            }
        }
        return text.toString();
    }

    static int[] packedBytes(NarrowingPacker x) {
        int[] bytes = new int[x.size()];
        Arrays.setAll(bytes, x::at);
        return bytes;
    }

    static int[] resultBytes(NarrowingPacker x) {
        int[] bytes = new int[x.told()];
        Arrays.setAll(bytes, x::byteAt);
        return bytes;
    }

    static void typeAll(NarrowingPacker x, String text) {
        for (char c : text.toCharArray()) {
            x.type(c);
        }
    }

    static void addAll(NarrowingPacker x, int[] bytes) {
        for (int b : bytes) {
            x.add(b);
        }
    }

    /** The packets as words: L97, M8@3 (length 8, distance 3), E35@1, S1. */
    static String packetsOf(NarrowingPacker x) {
        StringBuilder text = new StringBuilder();
        for (int i = 0; i < x.packets(); i++) {
            char kind = "LMES".charAt(x.packet(i, 0));
            text.append(i == 0 ? "" : " ").append(kind);
            if (kind == 'M' || kind == 'E') {
                text.append(x.packet(i, 1)).append('@');
            }
            text.append(x.packet(i, 2));
        }
        return text.toString();
    }

    void end(String test) {
        System.out.println(test + ": " + done + " checks, " + wrong + " wrong");
        if (wrong != 0 || done == 0) {
            System.exit(1);
        }
    }
}
