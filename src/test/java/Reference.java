import java.util.ArrayList;
import java.util.HashMap;
import java.util.List;
import java.util.Map;
import java.util.NoSuchElementException;

/** The document once more, as plainly and as slowly as it reads, to compare answers with. */
final class Reference {
    private static final String[] NAMES = {"M", "R", "A", "S", "B", "C"};

    private final int limit;
    private final List<Integer> source = new ArrayList<>();
    private List<Integer> packed = new ArrayList<>();
    private List<Integer> result = new ArrayList<>();
    private List<int[]> packets = new ArrayList<>();
    private Map<String, Integer> chances;
    /** What packings and unpackings have met, so that a test can ask whether it met everything. */
    final Map<String, Integer> met = new HashMap<>();

    Reference(int limit) {
        this.limit = limit < 1 ? 1 : limit > 16 ? 16 : limit;
    }

    private void meet(String what) {
        met.merge(what, 1, Integer::sum);
    }

    private static boolean append(List<Integer> list, int room, int b) {
        return b >= 0 && b < 256 && list.size() < room && list.add(b);
    }

    private static int entry(List<Integer> list, int i) {
        return i >= 0 && i < list.size() ? list.get(i) : -1;
    }

    boolean type(int b) {
        return append(source, 120, b);
    }

    int wipe() {
        int n = source.size();
        source.clear();
        return n;
    }

    int pack() {
        Script script = new Script();
        List<int[]> made = new ArrayList<>();
        while (script.told.size() < source.size()) {
            made.add(step(script));
        }
        script.end();
        int[] bytes = script.bytes();
        if (bytes.length > 200) {
            throw new IllegalStateException();
        }
        packets = made;
        chances = script.chances;
        packed = new ArrayList<>();
        for (int b : bytes) {
            packed.add(b);
        }
        return bytes.length;
    }

    private int[] step(Script script) {
        int i = script.told.size();
        int[] match = match(i);
        int k = echo(i, script.last);
        int echoLength = k < 0 ? 0 : agree(i - script.last[k], i);
        int state = script.s;
        if (echoLength >= 2 && echoLength >= match[0]) {
            meet("echo " + k);
            meet("echo in state " + state);
            int[] packet = {2, echoLength, script.last[k]};
            script.echo(k, echoLength);
            return packet;
        }
        if (match[0] > 0) {
            meet("match slot " + Script.slotOf(match[1] - 1));
            meet("match in state " + state);
            script.match(match[0], match[1]);
            return new int[] {1, match[0], match[1]};
        }
        if (script.last[0] <= i && source.get(i - script.last[0]).equals(source.get(i))) {
            meet("short in state " + state);
            script.shortly();
            return new int[] {3, 1, script.last[0]};
        }
        meet("literal in state " + state);
        script.literal(source.get(i));
        return new int[] {0, 1, source.get(i)};
    }

    /** Length and distance of the match that counts, {0, 0} if there is none. */
    private int[] match(int i) {
        List<Integer> places = new ArrayList<>();
        for (int j = 0; j < i && i + 1 < source.size(); j++) {
            if (source.subList(j, j + 2).equals(source.subList(i, i + 2))) {
                places.add(j);
            }
        }
        if (places.size() > limit) {
            meet("more places than the limit");
        }
        int[] best = {0, 0};
        for (int j : places.subList(Math.max(0, places.size() - limit), places.size())) {
            if (agree(j, i) >= best[0]) {
                best = new int[] {agree(j, i), i - j};
            }
        }
        return best;
    }

    private int echo(int i, int[] last) {
        int best = -1;
        for (int k = 3; k >= 0; k--) {
            if (last[k] <= i && (best < 0 || agree(i - last[k], i) >= agree(i - last[best], i))) {
                best = k;
            }
        }
        return best;
    }

    private int agree(int j, int i) {
        int n = 0;
        while (i + n < source.size() && source.get(j + n).equals(source.get(i + n))) {
            n++;
        }
        return n;
    }

    int packets() {
        return packets.size();
    }

    int packet(int i, int what) {
        boolean known = i >= 0 && i < packets.size() && what >= 0 && what <= 2;
        return known ? packets.get(i)[what] : -1;
    }

    int chance(int name, int state) {
        if (chances == null || name < 0 || name > 5 || state < 0 || state > 11) {
            return -1;
        }
        return chances.getOrDefault(NAMES[name] + " " + state, 1024);
    }

    int size() {
        return packed.size();
    }

    int at(int i) {
        return entry(packed, i);
    }

    boolean add(int b) {
        return append(packed, 200, b);
    }

    int put(int i, int b) {
        if (i < 0 || i >= packed.size()) {
            throw new IndexOutOfBoundsException();
        }
        if (b < 0 || b > 255) {
            throw new IllegalArgumentException();
        }
        return packed.set(i, b);
    }

    int cut(int n) {
        if (n < 0) {
            throw new IllegalArgumentException();
        }
        int gone = Math.max(0, packed.size() - n);
        packed = new ArrayList<>(packed.subList(0, packed.size() - gone));
        return gone;
    }

    int unpack() {
        List<Integer> bytes = new Unpacking(packed).run();
        meet("unpacked");
        result = bytes;
        return result.size();
    }

    int told() {
        return result.size();
    }

    int byteAt(int i) {
        return entry(result, i);
    }

    /** One unpacking; range and CODE are held as they stand in the document. */
    private static final class Unpacking {
        private final List<Integer> bytes;
        private final Map<String, Integer> chances = new HashMap<>();
        private final List<Integer> told = new ArrayList<>();
        private final List<Integer> last = new ArrayList<>(List.of(1, 1, 1, 1));
        private long range = 4294967295L;
        private long code;
        private int taken;
        private int s;

        Unpacking(List<Integer> bytes) {
            this.bytes = bytes;
        }

        List<Integer> run() {
            for (int k = 0; k < 4; k++) {
                next();
            }
            if (code == 4294967295L) {
                throw new IllegalArgumentException();
            }
            boolean more = true;
            while (more) {
                more = packet();
            }
            if (taken < bytes.size() || code != 0) {
                throw new IllegalArgumentException();
            }
            return told;
        }

        private void next() {
            if (taken == bytes.size()) {
                throw new NoSuchElementException();
            }
            code = code * 256 + bytes.get(taken++);
        }

        private int bit(String name) {
            int p = chances.getOrDefault(name, 1024);
            long b = range / 2048 * p;
            int bit = code < b ? 0 : 1;
            code -= bit == 0 ? 0 : b;
            range = bit == 0 ? b : range - b;
            chances.put(name, bit == 0 ? p + (2048 - p) / 32 : p - p / 32);
            if (range < 16777216L) {
                range *= 256;
                next();
            }
            return bit;
        }

        private String bits(String name, int count) {
            String given = "1";
            while (given.length() <= count) {
                given += bit(name + " " + given);
            }
            return given.substring(1);
        }

        private static int number(String binary) {
            return binary.isEmpty() ? 0 : Integer.parseInt(binary, 2);
        }

        /** False behind END. */
        private boolean packet() {
            if (bit("M " + s) == 0) {
                int b = literal();
                makeRoomFor(1);
                told.add(b);
                s = s < 4 ? 0 : s < 10 ? s - 3 : s - 6;
                return true;
            }
            return bit("R " + s) == 0 ? match() : repeat();
        }

        private int literal() {
            int q = told.isEmpty() ? 0 : told.get(told.size() - 1) / 64;
            if (s < 7) {
                return number(bits("L " + q + " 0", 8));
            }
            int other = told.get(told.size() - last.get(0));
            String likely = Integer.toBinaryString(256 + other);
            String given = "1";
            while (given.length() < 9) {
                int tree = likely.startsWith(given) ? 1 + likely.charAt(given.length()) - '0' : 0;
                given += bit("L " + q + " " + tree + " " + given);
            }
            return number(given) - 256;
        }

        private boolean match() {
            int v = length("match");
            int slot = number(bits("D " + Math.min(v, 3), 4));
            if (slot == 15) {
                return false;
            }
            if (slot == 14) {
                throw new IndexOutOfBoundsException();
            }
            int d = slot;
            if (slot >= 4) {
                int h = slot / 2;
                String row = bits("F " + slot, h - 1);
                d = (1 << h) + (slot % 2 << (h - 1));
                d += number(new StringBuilder(row).reverse().toString());
            }
            copy(v + 2, d + 1);
            last.add(0, d + 1);
            last.remove(4);
            s = s < 7 ? 7 : 10;
            return true;
        }

        private boolean repeat() {
            int k;
            if (bit("A " + s) == 0) {
                k = 0;
                if (bit("S " + s) == 0) {
                    copy(1, last.get(0));
                    s = s < 7 ? 9 : 11;
                    return true;
                }
            } else {
                k = bit("B " + s) == 0 ? 1 : 2;
                k += k == 2 ? bit("C " + s) : 0;
            }
            copy(length("echo") + 2, last.get(k));
            last.add(0, last.remove(k));
            s = s < 7 ? 8 : 11;
            return true;
        }

        private int length(String y) {
            if (bit(y + " 0") == 0) {
                return number(bits(y + " low", 3));
            }
            if (bit(y + " 1") == 0) {
                return 8 + number(bits(y + " mid", 3));
            }
            return 16 + number(bits(y + " high", 7));
        }

        private void copy(int l, int d) {
            if (d > told.size()) {
                throw new IndexOutOfBoundsException();
            }
            makeRoomFor(l);
            for (int k = 0; k < l; k++) {
                told.add(told.get(told.size() - d));
            }
        }

        private void makeRoomFor(int l) {
            if (told.size() + l > 120) {
                throw new IllegalStateException();
            }
        }
    }
}
