import java.util.Arrays;
import java.util.NoSuchElementException;

/**
 * A packer: bytes become packets, packets become bits whose chances learn, bits become bytes by a
 * range that is narrowed; and back, what can't be unpacked being told.
 *
 * <p>All rows are made once, with the object: packing and unpacking work on rows of their own, and
 * what they made is kept only when nothing can be thrown any more.
 */
public final class NarrowingPacker {
    public static final int NONE = -1;

    private static final int SOURCE_ROOM = 120;
    private static final int PACKED_ROOM = 200;
    private static final int RESULT_ROOM = 120;
    private static final int HIGHEST_LIMIT = 16;
    private static final int HIGHEST_BYTE = 255;

    private static final int LITERAL = 0;
    private static final int MATCH = 1;
    private static final int ECHO = 2;
    private static final int SHORT = 3;
    private static final int END = 4;

    private static final int LAST_DISTANCES = 4;
    private static final int STATES = 12;
    private static final int FIRST_STATE_BEHIND_A_COPY = 7;

    private static final int SHORTEST_LENGTH = 2;
    private static final int SLOT_TOO_FAR = 14;
    private static final int SLOT_OF_END = 15;

    private static final long FIRST_RANGE = 0xFFFFFFFFL;
    private static final long SMALLEST_RANGE = 1L << 24;
    private static final int FIRST_DIGITS = 4;
    private static final int CHANCE_BITS = 11;
    private static final int LEARNING = 5;

    // All chances stand in one row; AT_x is where those of the name x begin. The first six names
    // come in the order in which chance() numbers them.
    private static final int NAMES_BY_STATE = 6;
    private static final int AT_M = 0;
    private static final int AT_R = STATES;
    private static final int AT_A = 2 * STATES;
    private static final int AT_S = 3 * STATES;
    private static final int AT_B = 4 * STATES;
    private static final int AT_C = 5 * STATES;
    private static final int CHANCES_BY_STATE = NAMES_BY_STATE * STATES;

    // The chances of a length: two choices, then the trees.
    private static final int LOW_TREE = 2;
    private static final int MID_TREE = LOW_TREE + 8;
    private static final int HIGH_TREE = MID_TREE + 8;
    private static final int CHANCES_OF_A_LENGTH = HIGH_TREE + 128;
    private static final int AT_MATCH_LENGTH = CHANCES_BY_STATE;
    private static final int AT_ECHO_LENGTH = AT_MATCH_LENGTH + CHANCES_OF_A_LENGTH;

    private static final int SLOT_TREE = 16;
    private static final int AT_SLOTS = AT_ECHO_LENGTH + CHANCES_OF_A_LENGTH;
    private static final int FIRST_SLOT_WITH_ROW = 4;
    private static final int SLOT_ROW = 32;
    private static final int AT_ROWS = AT_SLOTS + 4 * SLOT_TREE;
    private static final int LITERAL_TREE = 256;
    private static final int AT_LITERALS =
            AT_ROWS + (SLOT_TOO_FAR - FIRST_SLOT_WITH_ROW) * SLOT_ROW;
    private static final int ALL_CHANCES = AT_LITERALS + 4 * 3 * LITERAL_TREE;

    private final Bytes source;
    private final Bytes packed;
    private final Bytes result;
    private final int[] keptChances;
    private PacketList keptPackets;
    private boolean somethingWasPacked;

    private PacketList newPackets;
    private final Packet current;
    private final History history;
    private final Chooser chooser;
    private final PacketWriter writer;
    private final PacketReader reader;

    public NarrowingPacker(int limit) {
        source = new Bytes(SOURCE_ROOM);
        packed = new Bytes(PACKED_ROOM);
        result = new Bytes(RESULT_ROOM);
        keptChances = new int[CHANCES_BY_STATE];
        keptPackets = new PacketList();
        newPackets = new PacketList();
        current = new Packet();
        history = new History();
        chooser = new Chooser(Math.max(1, Math.min(HIGHEST_LIMIT, limit)));
        writer = new PacketWriter();
        reader = new PacketReader();
    }

    public boolean type(int b) {
        return source.append(b);
    }

    public int wipe() {
        return source.shorten(0);
    }

    public int pack() throws IllegalStateException {
        history.restart();
        newPackets.clear();
        writer.narrower.restart();
        writeSource();
        if (!writer.narrower.fits()) {
            throw new IllegalStateException("more packed bytes than there is room for");
        }
        keepPacking(writer.narrower);
        return packed.count;
    }

    public int packets() {
        return keptPackets.count;
    }

    public int packet(int i, int what) {
        return keptPackets.tellOf(i, what);
    }

    public int chance(int name, int state) {
        if (!somethingWasPacked || name < 0 || name >= NAMES_BY_STATE) {
            return NONE;
        }
        if (state < 0 || state >= STATES) {
            return NONE;
        }
        return keptChances[name * STATES + state];
    }

    public int size() {
        return packed.count;
    }

    public int at(int i) {
        return packed.get(i);
    }

    public boolean add(int b) {
        return packed.append(b);
    }

    public int put(int i, int b) throws IndexOutOfBoundsException, IllegalArgumentException {
        if (!packed.has(i)) {
            throw new IndexOutOfBoundsException("no such packed byte");
        }
        if (!isByte(b)) {
            throw new IllegalArgumentException("not a byte");
        }
        int before = packed.row[i];
        packed.row[i] = b;
        return before;
    }

    public int cut(int n) throws IllegalArgumentException {
        if (n < 0) {
            throw new IllegalArgumentException("fewer than no bytes");
        }
        return packed.shorten(n);
    }

    public int unpack()
            throws NoSuchElementException,
                    IllegalArgumentException,
                    IndexOutOfBoundsException,
                    IllegalStateException {
        history.restart();
        reader.follower.restart(packed);
        // Each packet but END tells a byte or more, so one more than there is room for is refused.
        for (int packetsRead = 0; packetsRead <= RESULT_ROOM; packetsRead++) {
            reader.readPacket(current, history);
            if (current.kind == END) {
                break;
            }
            refuseWhatCannotBeTold();
            history.tell(current);
        }
        reader.follower.refuseWhatIsLeft();
        result.copy(history.bytes.row, history.bytes.count);
        return result.count;
    }

    public int told() {
        return result.count;
    }

    public int byteAt(int i) {
        return result.get(i);
    }

    private static boolean isByte(int b) {
        return b >= 0 && b <= HIGHEST_BYTE;
    }

    private void writeSource() {
        for (int k = 0; k < SOURCE_ROOM && history.bytes.count < source.count; k++) {
            chooser.choose(current, source, history);
            writer.writePacket(current, history);
            history.tell(current);
            newPackets.append(current);
        }
        current.becomeEnd();
        writer.writePacket(current, history);
    }

    private void keepPacking(Narrower narrower) {
        packed.copy(narrower.digits, narrower.length);
        System.arraycopy(narrower.chances.row, 0, keptChances, 0, CHANCES_BY_STATE);
        PacketList old = keptPackets;
        keptPackets = newPackets;
        newPackets = old;
        somethingWasPacked = true;
    }

    private void refuseWhatCannotBeTold() {
        if (current.kind != LITERAL && current.distance > history.bytes.count) {
            throw new IndexOutOfBoundsException("a distance before the first byte");
        }
        if (current.length > RESULT_ROOM - history.bytes.count) {
            throw new IllegalStateException("more bytes told than there is room for");
        }
    }

    /** A row of bytes with a count that never passes its room. */
    private static final class Bytes {
        private final int[] row;
        private int count;

        Bytes(int room) {
            row = new int[room];
        }

        boolean has(int i) {
            return i >= 0 && i < count;
        }

        int get(int i) {
            return has(i) ? row[i] : NONE;
        }

        boolean append(int b) {
            if (!isByte(b) || count >= row.length) {
                return false;
            }
            row[count] = b;
            count++;
            return true;
        }

        /** Keeps the first n bytes; answers how many went. */
        int shorten(int n) {
            int before = count;
            count = Math.max(0, Math.min(n, before));
            return before - count;
        }

        void copy(int[] from, int length) {
            count = Math.max(0, Math.min(length, Math.min(from.length, row.length)));
            System.arraycopy(from, 0, row, 0, count);
        }
    }

    /** One packet, made by choosing or by reading, and used again for the next one. */
    private static final class Packet {
        private int kind;
        private int length;
        private int distance;
        private int echo;
        private int literal;

        void becomeLiteral(int b) {
            become(LITERAL, 1, 0);
            literal = b;
        }

        void becomeMatch(int l, int d) {
            become(MATCH, l, d);
        }

        void becomeEcho(int k, int l, int d) {
            become(ECHO, l, d);
            echo = k;
        }

        void becomeShort(int d) {
            become(SHORT, 1, d);
        }

        void becomeEnd() {
            become(END, 0, 0);
        }

        private void become(int newKind, int l, int d) {
            kind = newKind;
            length = l;
            distance = d;
        }
    }

    /** The packets of one packing, as packet() tells them. */
    private static final class PacketList {
        private final int[] kinds = new int[SOURCE_ROOM];
        private final int[] lengths = new int[SOURCE_ROOM];
        private final int[] values = new int[SOURCE_ROOM];
        private int count;

        void clear() {
            count = 0;
        }

        void append(Packet p) {
            if (count < SOURCE_ROOM) {
                kinds[count] = p.kind;
                lengths[count] = p.length;
                values[count] = p.kind == LITERAL ? p.literal : p.distance;
                count++;
            }
        }

        int tellOf(int i, int what) {
            if (i < 0 || i >= count) {
                return NONE;
            }
            switch (what) {
                case 0:
                    return kinds[i];
                case 1:
                    return lengths[i];
                case 2:
                    return values[i];
                default:
                    return NONE;
            }
        }
    }

    /** What has been told so far: the bytes, the last distances and the state. */
    private static final class History {
        private final Bytes bytes = new Bytes(RESULT_ROOM);
        private final int[] lastDistances = new int[LAST_DISTANCES];
        private int state;

        void restart() {
            bytes.shorten(0);
            Arrays.fill(lastDistances, 1);
            state = 0;
        }

        void tell(Packet p) {
            if (p.kind == LITERAL) {
                bytes.append(p.literal);
            } else {
                repeat(p.length, p.distance);
            }
            if (p.kind == MATCH) {
                bringToFront(LAST_DISTANCES - 1, p.distance);
            } else if (p.kind == ECHO) {
                bringToFront(p.echo, p.distance);
            }
            state = stateBehind(p.kind);
        }

        /** 0 where no byte stands. */
        int byteBefore(int distance) {
            boolean stands = distance >= 1 && distance <= bytes.count;
            return stands ? bytes.row[bytes.count - distance] : 0;
        }

        /** The states from 7 on are those behind a match, an echo or a short. */
        boolean isBehindACopy() {
            return state >= FIRST_STATE_BEHIND_A_COPY;
        }

        int placeOfLiterals() {
            int highestBits = byteBefore(1) >> 6;
            return AT_LITERALS + highestBits * 3 * LITERAL_TREE;
        }

        private void repeat(int length, int distance) {
            for (int k = 0; k < length; k++) {
                bytes.append(byteBefore(distance));
            }
        }

        private void bringToFront(int from, int distance) {
            for (int k = from; k > 0; k--) {
                lastDistances[k] = lastDistances[k - 1];
            }
            lastDistances[0] = distance;
        }

        private int stateBehind(int kind) {
            switch (kind) {
                case LITERAL:
                    return stateBehindLiteral();
                case MATCH:
                    return isBehindACopy() ? 10 : 7;
                case ECHO:
                    return isBehindACopy() ? 11 : 8;
                default:
                    return isBehindACopy() ? 11 : 9;
            }
        }

        private int stateBehindLiteral() {
            if (state < 4) {
                return 0;
            }
            return state < 10 ? state - 3 : state - 6;
        }
    }

    /** Chooses the packet that tells the next bytes of the source. */
    private static final class Chooser {
        private final int limit;
        private int matchLength;
        private int matchDistance;
        private int echoLength;
        private int echo;

        Chooser(int limit) {
            this.limit = limit;
        }

        void choose(Packet p, Bytes source, History history) {
            int next = history.bytes.count;
            int[] lastDistances = history.lastDistances;
            findMatch(source, next);
            findEcho(source, next, lastDistances);
            if (echoLength >= SHORTEST_LENGTH && echoLength >= matchLength) {
                p.becomeEcho(echo, echoLength, lastDistances[echo]);
            } else if (matchLength >= SHORTEST_LENGTH) {
                p.becomeMatch(matchLength, matchDistance);
            } else if (agreeing(source, next - lastDistances[0], next) > 0) {
                p.becomeShort(lastDistances[0]);
            } else {
                p.becomeLiteral(source.get(next));
            }
        }

        private void findMatch(Bytes source, int next) {
            matchLength = 0;
            matchDistance = 0;
            int tried = 0;
            for (int from = next - 1; from >= 0 && tried < limit; from--) {
                int length = agreeing(source, from, next);
                if (length >= SHORTEST_LENGTH) {
                    tried++;
                    if (length > matchLength) {
                        matchLength = length;
                        matchDistance = next - from;
                    }
                }
            }
        }

        private void findEcho(Bytes source, int next, int[] lastDistances) {
            echoLength = 0;
            echo = 0;
            for (int k = 0; k < LAST_DISTANCES; k++) {
                int length = agreeing(source, next - lastDistances[k], next);
                if (length > echoLength) {
                    echoLength = length;
                    echo = k;
                }
            }
        }

        /** How many bytes agree from both places on; 0 if the first one is before the source. */
        private static int agreeing(Bytes source, int from, int next) {
            if (from < 0 || from >= next) {
                return 0;
            }
            int length = 0;
            while (next + length < source.count
                    && source.row[from + length] == source.row[next + length]) {
                length++;
            }
            return length;
        }
    }

    /** The chance of each bit, of 2048, that it is 0. */
    private static final class Chances {
        private static final int SURE = 1 << CHANCE_BITS;
        private final int[] row = new int[ALL_CHANCES];

        void forget() {
            Arrays.fill(row, SURE / 2);
        }

        long boundIn(long range, int place) {
            return (range >> CHANCE_BITS) * row[place];
        }

        void learn(int place, int bit) {
            int p = row[place];
            row[place] = bit == 0 ? p + ((SURE - p) >> LEARNING) : p - (p >> LEARNING);
        }
    }

    /** Turns bits into digits to the base 256: LOW is their number. */
    private static final class Narrower {
        private final Chances chances = new Chances();
        private final int[] digits = new int[PACKED_ROOM];
        private int length;
        private long range;

        void restart() {
            chances.forget();
            Arrays.fill(digits, 0);
            length = FIRST_DIGITS;
            range = FIRST_RANGE;
        }

        boolean fits() {
            return length <= PACKED_ROOM;
        }

        void writeBit(int place, int bit) {
            long bound = chances.boundIn(range, place);
            if (bit == 0) {
                range = bound;
            } else {
                raiseLow(bound);
                range -= bound;
            }
            chances.learn(place, bit);
            if (range < SMALLEST_RANGE) {
                range <<= 8;
                length++;
            }
        }

        void writeTree(int place, int bits, int v) {
            int m = 1;
            for (int k = bits - 1; k >= 0; k--) {
                int bit = (v >> k) & 1;
                writeBit(place + m, bit);
                m = 2 * m + bit;
            }
        }

        void writeRow(int place, int bits, int v) {
            int m = 1;
            for (int k = 0; k < bits; k++) {
                int bit = (v >> k) & 1;
                writeBit(place + m, bit);
                m = 2 * m + bit;
            }
        }

        /** What doesn't fit will be refused, so its digits need not be known. */
        private void raiseLow(long bound) {
            if (length > PACKED_ROOM) {
                return;
            }
            long carry = bound;
            for (int i = length - 1; i >= 0 && carry > 0; i--) {
                carry += digits[i];
                digits[i] = (int) (carry & HIGHEST_BYTE);
                carry >>= 8;
            }
        }
    }

    /** Turns packets into bits. */
    private static final class PacketWriter {
        private final Narrower narrower = new Narrower();

        void writePacket(Packet p, History history) {
            int s = history.state;
            narrower.writeBit(AT_M + s, p.kind == LITERAL ? 0 : 1);
            if (p.kind == LITERAL) {
                writeLiteral(p.literal, history);
                return;
            }
            boolean repeats = p.kind == ECHO || p.kind == SHORT;
            narrower.writeBit(AT_R + s, repeats ? 1 : 0);
            if (p.kind == MATCH) {
                writeMatch(p);
            } else if (p.kind == END) {
                writeEnd();
            } else {
                writeRepeat(p, s);
            }
        }

        private void writeLiteral(int b, History history) {
            int place = history.placeOfLiterals();
            int likely = history.byteBefore(history.lastDistances[0]);
            boolean asLikely = history.isBehindACopy();
            int m = 1;
            for (int k = 7; k >= 0; k--) {
                int bit = (b >> k) & 1;
                int likelyBit = (likely >> k) & 1;
                int tree = asLikely ? 1 + likelyBit : 0;
                narrower.writeBit(place + tree * LITERAL_TREE + m, bit);
                asLikely = asLikely && bit == likelyBit;
                m = 2 * m + bit;
            }
        }

        private void writeMatch(Packet p) {
            int v = p.length - SHORTEST_LENGTH;
            int d = p.distance - 1;
            int h = bitsBelowHighest(d);
            int slot = d < FIRST_SLOT_WITH_ROW ? d : 2 * h + ((d >> (h - 1)) & 1);
            writeLength(AT_MATCH_LENGTH, v);
            narrower.writeTree(AT_SLOTS + Math.min(v, 3) * SLOT_TREE, 4, slot);
            if (slot >= FIRST_SLOT_WITH_ROW) {
                int place = AT_ROWS + (slot - FIRST_SLOT_WITH_ROW) * SLOT_ROW;
                narrower.writeRow(place, h - 1, d);
            }
        }

        private void writeEnd() {
            writeLength(AT_MATCH_LENGTH, 0);
            narrower.writeTree(AT_SLOTS, 4, SLOT_OF_END);
        }

        private void writeRepeat(Packet p, int s) {
            if (p.kind == SHORT || p.echo == 0) {
                narrower.writeBit(AT_A + s, 0);
                narrower.writeBit(AT_S + s, p.kind == SHORT ? 0 : 1);
            } else {
                narrower.writeBit(AT_A + s, 1);
                narrower.writeBit(AT_B + s, p.echo == 1 ? 0 : 1);
                if (p.echo > 1) {
                    narrower.writeBit(AT_C + s, p.echo == 2 ? 0 : 1);
                }
            }
            if (p.kind == ECHO) {
                writeLength(AT_ECHO_LENGTH, p.length - SHORTEST_LENGTH);
            }
        }

        private void writeLength(int place, int v) {
            narrower.writeBit(place, v < 8 ? 0 : 1);
            if (v < 8) {
                narrower.writeTree(place + LOW_TREE, 3, v);
                return;
            }
            narrower.writeBit(place + 1, v < 16 ? 0 : 1);
            if (v < 16) {
                narrower.writeTree(place + MID_TREE, 3, v - 8);
            } else {
                narrower.writeTree(place + HIGH_TREE, 7, v - 16);
            }
        }

        private static int bitsBelowHighest(int d) {
            int h = 0;
            for (int k = 1; k < 8; k++) {
                if (d >> k > 0) {
                    h = k;
                }
            }
            return h;
        }
    }

    /** Turns packed bytes back into bits, following the range that was narrowed. */
    private static final class Follower {
        private final Chances chances = new Chances();
        private final Bytes packed = new Bytes(PACKED_ROOM);
        private int next;
        private long code;
        private long range;

        void restart(Bytes from) {
            chances.forget();
            packed.copy(from.row, from.count);
            next = 0;
            code = 0;
            range = FIRST_RANGE;
            for (int k = 0; k < FIRST_DIGITS; k++) {
                takeByte();
            }
            if (code >= range) {
                throw new IllegalArgumentException("the first four bytes are all 255");
            }
        }

        int readBit(int place) {
            long bound = chances.boundIn(range, place);
            int bit = code < bound ? 0 : 1;
            if (bit == 0) {
                range = bound;
            } else {
                code -= bound;
                range -= bound;
            }
            chances.learn(place, bit);
            if (range < SMALLEST_RANGE) {
                range <<= 8;
                takeByte();
            }
            return bit;
        }

        int readTree(int place, int bits) {
            int m = 1;
            for (int k = 0; k < bits; k++) {
                m = 2 * m + readBit(place + m);
            }
            return m - (1 << bits);
        }

        int readRow(int place, int bits) {
            int m = 1;
            int v = 0;
            for (int k = 0; k < bits; k++) {
                int bit = readBit(place + m);
                m = 2 * m + bit;
                v += bit << k;
            }
            return v;
        }

        void refuseWhatIsLeft() {
            if (next < packed.count || code != 0) {
                throw new IllegalArgumentException("something is left behind the end");
            }
        }

        private void takeByte() {
            if (!packed.has(next)) {
                throw new NoSuchElementException("a packed byte is missing");
            }
            code = (code << 8) + packed.row[next];
            next++;
        }
    }

    /** Turns bits back into packets. */
    private static final class PacketReader {
        private final Follower follower = new Follower();

        void readPacket(Packet p, History history) {
            int s = history.state;
            if (follower.readBit(AT_M + s) == 0) {
                p.becomeLiteral(readLiteral(history));
            } else if (follower.readBit(AT_R + s) == 0) {
                readMatchOrEnd(p);
            } else {
                readRepeat(p, s, history.lastDistances);
            }
        }

        private int readLiteral(History history) {
            int place = history.placeOfLiterals();
            int likely = history.byteBefore(history.lastDistances[0]);
            boolean asLikely = history.isBehindACopy();
            int m = 1;
            for (int k = 7; k >= 0; k--) {
                int likelyBit = (likely >> k) & 1;
                int tree = asLikely ? 1 + likelyBit : 0;
                int bit = follower.readBit(place + tree * LITERAL_TREE + m);
                asLikely = asLikely && bit == likelyBit;
                m = 2 * m + bit;
            }
            return m - LITERAL_TREE;
        }

        private void readMatchOrEnd(Packet p) {
            int v = readLength(AT_MATCH_LENGTH);
            int slot = follower.readTree(AT_SLOTS + Math.min(v, 3) * SLOT_TREE, 4);
            if (slot == SLOT_OF_END) {
                p.becomeEnd();
                return;
            }
            if (slot == SLOT_TOO_FAR) {
                throw new IndexOutOfBoundsException("a slot whose distances are all too far");
            }
            p.becomeMatch(v + SHORTEST_LENGTH, readDistance(slot));
        }

        private int readDistance(int slot) {
            if (slot < FIRST_SLOT_WITH_ROW) {
                return slot + 1;
            }
            int rowBits = slot / 2 - 1;
            int place = AT_ROWS + (slot - FIRST_SLOT_WITH_ROW) * SLOT_ROW;
            int highestBits = (2 + slot % 2) << rowBits;
            return highestBits + follower.readRow(place, rowBits) + 1;
        }

        private void readRepeat(Packet p, int s, int[] lastDistances) {
            int echo = 0;
            if (follower.readBit(AT_A + s) == 0) {
                if (follower.readBit(AT_S + s) == 0) {
                    p.becomeShort(lastDistances[0]);
                    return;
                }
            } else if (follower.readBit(AT_B + s) == 0) {
                echo = 1;
            } else {
                echo = 2 + follower.readBit(AT_C + s);
            }
            int v = readLength(AT_ECHO_LENGTH);
            p.becomeEcho(echo, v + SHORTEST_LENGTH, lastDistances[echo]);
        }

        private int readLength(int place) {
            if (follower.readBit(place) == 0) {
                return follower.readTree(place + LOW_TREE, 3);
            }
            if (follower.readBit(place + 1) == 0) {
                return 8 + follower.readTree(place + MID_TREE, 3);
            }
            return 16 + follower.readTree(place + HIGH_TREE, 7);
        }
    }
}
