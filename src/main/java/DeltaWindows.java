import java.util.Arrays;

/**
 * Writes the difference of two rows of bytes as a delta of windows, and reads such deltas, refusing
 * every one that is not well formed. Every row that a call needs is made with the object, so that no
 * call makes anything.
 */
public final class DeltaWindows {
    public static final int BAD = -1;
    public static final int ILLFORMED = -2;
    public static final int TOOLONG = -3;

    private static final int NONE = -1;

    private static final int SOURCE = 0;
    private static final int TARGET = 1;
    private static final int DELTA = 2;
    private static final int OUTPUT = 3;
    private static final int SOURCE_MOST = 48;
    private static final int TARGET_MOST = 64;
    private static final int DELTA_MOST = 1000;
    private static final int OUTPUT_MOST = 400;
    private static final int PUT_MOST = 16;
    private static final int BYTE_MOST = 255;
    private static final int INTEGER_MOST = 2147483647;
    private static final int INTEGER_BYTES_MOST = 5;

    private static final int[] HEAD = {214, 195, 196, 0, 0};
    private static final int FROM_NOTHING = 0;
    private static final int FROM_SOURCE = 1;
    private static final int FROM_OUTPUT = 2;

    private static final int ADD = 1;
    private static final int RUN = 2;
    private static final int COPY = 3;
    private static final int WORTH_IT = 4;

    private static final int NEAR_SLOTS = 4;
    private static final int SAME_SLOTS = 768;
    private static final int SAME_PAGE = 256;
    private static final int HERE_MODE = 1;
    private static final int NEAR_MODE = 2;
    private static final int SAME_MODE = 6;

    private final Row source;
    private final Row target;
    private final Row delta;
    private final Row output;
    private final Encoder encoder;
    private final Decoder decoder;
    private final Caches decoded;
    private int decodedWindows;

    public DeltaWindows() {
        source = new Row(SOURCE_MOST);
        target = new Row(TARGET_MOST);
        delta = new Row(DELTA_MOST);
        output = new Row(OUTPUT_MOST);
        encoder = new Encoder(source, target, delta);
        decoder = new Decoder(source, delta);
        decoded = new Caches();
        decodedWindows = 0;
    }

    public boolean put(int row, int b, int n) {
        Row r = inputRow(row);
        if (r == null || !isByte(b) || n < 1 || n > PUT_MOST || n > r.room()) {
            return false;
        }
        for (int k = 0; k < n; k++) {
            r.append(b);
        }
        return true;
    }

    public boolean cut(int row, int n) {
        Row r = inputRow(row);
        if (r == null || n < 0 || n > r.count()) {
            return false;
        }
        r.keep(n);
        return true;
    }

    public boolean set(int row, int i, int b) {
        Row r = inputRow(row);
        if (r == null || i < 0 || i >= r.count() || !isByte(b)) {
            return false;
        }
        r.replace(i, b);
        return true;
    }

    public int encode(int w) {
        if (w < 1 || w > TARGET_MOST) {
            return BAD;
        }
        encoder.writeDelta(w);
        return delta.count();
    }

    public int decode(int bound) {
        if (bound < 0 || bound > OUTPUT_MOST) {
            return BAD;
        }
        int answer = decoder.readDelta(bound);
        if (answer >= 0) {
            output.become(decoder.made);
            decoded.become(decoder.caches);
            decodedWindows = decoder.windowsRead;
        }
        return answer;
    }

    public int length(int row) {
        Row r = anyRow(row);
        return r == null ? BAD : r.count();
    }

    public int byteAt(int row, int i) {
        Row r = anyRow(row);
        return r == null || i < 0 || i >= r.count() ? BAD : r.at(i);
    }

    public int code(int k, int part) {
        if (k < 0 || k > BYTE_MOST || part < 0 || part > 5) {
            return BAD;
        }
        return Codes.partOf(k, part);
    }

    public int cache(int side, int i) {
        if (side < 0 || side > 1 || i < 0 || i >= NEAR_SLOTS + SAME_SLOTS) {
            return BAD;
        }
        Caches asked = side == 0 ? encoder.caches : decoded;
        return i < NEAR_SLOTS ? asked.near(i) : asked.same(i - NEAR_SLOTS);
    }

    public int windows() {
        return decodedWindows;
    }

    public boolean agrees() {
        if (output.count() != target.count()) {
            return false;
        }
        for (int i = 0; i < target.count(); i++) {
            if (output.at(i) != target.at(i)) {
                return false;
            }
        }
        return true;
    }

    private static boolean isByte(int b) {
        return b >= 0 && b <= BYTE_MOST;
    }

    /** A row that the caller may change, or null. */
    private Row inputRow(int row) {
        return row == OUTPUT ? null : anyRow(row);
    }

    private Row anyRow(int row) {
        switch (row) {
            case SOURCE:
                return source;
            case TARGET:
                return target;
            case DELTA:
                return delta;
            case OUTPUT:
                return output;
            default:
                return null;
        }
    }

    /** A row of bytes with a fixed most. What does not fit or is not there is passed over, never thrown. */
    private static final class Row {
        private final int[] bytes;
        private int count;

        Row(int most) {
            bytes = new int[most];
            count = 0;
        }

        int count() {
            return count;
        }

        int room() {
            return bytes.length - count;
        }

        int at(int i) {
            return i >= 0 && i < count ? bytes[i] : NONE;
        }

        void replace(int i, int b) {
            if (i >= 0 && i < count) {
                bytes[i] = b;
            }
        }

        void keep(int n) {
            if (n >= 0 && n < count) {
                count = n;
            }
        }

        void append(int b) {
            if (count < bytes.length) {
                bytes[count] = b;
                count++;
            }
        }

        void appendRow(Row other) {
            for (int i = 0; i < other.count; i++) {
                append(other.bytes[i]);
            }
        }

        void appendInteger(int value) {
            for (int shift = 28; shift > 0; shift -= 7) {
                int upper = value >> shift;
                if (upper > 0) {
                    append(128 + (upper & 127));
                }
            }
            append(value & 127);
        }

        void become(Row other) {
            count = 0;
            appendRow(other);
        }
    }

    /** Reads a part of a row from its first byte on. */
    private static final class Reader {
        private final Row row;
        private int place;
        private int end;

        Reader(Row row) {
            this.row = row;
            place = 0;
            end = 0;
        }

        /** The part from here on, of so many bytes, but never beyond the row. */
        void open(int from, int size) {
            place = Math.max(0, Math.min(from, row.count));
            end = place + Math.max(0, Math.min(size, row.count - place));
        }

        int place() {
            return place;
        }

        int left() {
            return end - place;
        }

        /** NONE when the part has no more bytes. */
        int nextByte() {
            if (place < 0 || place >= end || place >= row.bytes.length) {
                return NONE;
            }
            int b = row.bytes[place];
            place++;
            return b;
        }

        /** NONE when what stands there is no integer. */
        int nextInteger() {
            long value = 0;
            for (int k = 0; k < INTEGER_BYTES_MOST; k++) {
                int b = nextByte();
                if (b == NONE) {
                    return NONE;
                }
                value = value * 128 + (b & 127);
                if (b < 128) {
                    return value > INTEGER_MOST ? NONE : (int) value;
                }
            }
            return NONE;
        }
    }

    /** The addresses of the latest copies of one window, and what the modes make of them. */
    private static final class Caches {
        private final int[] near;
        private final int[] same;
        private int copies;

        Caches() {
            near = new int[NEAR_SLOTS];
            same = new int[SAME_SLOTS];
            copies = 0;
        }

        int near(int i) {
            return i >= 0 && i < NEAR_SLOTS ? near[i] : 0;
        }

        int same(int i) {
            return i >= 0 && i < SAME_SLOTS ? same[i] : 0;
        }

        void clear() {
            Arrays.fill(near, 0);
            Arrays.fill(same, 0);
            copies = 0;
        }

        void learn(int address) {
            near[Math.floorMod(copies, NEAR_SLOTS)] = address;
            same[Math.floorMod(address, SAME_SLOTS)] = address;
            copies++;
        }

        /** Of the modes that write an integer, the one to write this address in. */
        int leastMode(int address, int here) {
            int best = 0;
            for (int mode = 1; mode < SAME_MODE; mode++) {
                int integer = integerFor(mode, address, here);
                if (integer >= 0 && integer < integerFor(best, address, here)) {
                    best = mode;
                }
            }
            return best;
        }

        int integerFor(int mode, int address, int here) {
            if (mode >= NEAR_MODE && mode < SAME_MODE) {
                return address - near[mode - NEAR_MODE];
            }
            return mode == HERE_MODE ? here - address : address;
        }

        /** Turns integerFor round; long, for the sum may be beyond int. */
        long addressFor(int mode, int integer, int here) {
            if (mode >= NEAR_MODE && mode < SAME_MODE) {
                return (long) near[mode - NEAR_MODE] + integer;
            }
            return mode == HERE_MODE ? here - integer : integer;
        }

        void become(Caches other) {
            System.arraycopy(other.near, 0, near, 0, NEAR_SLOTS);
            System.arraycopy(other.same, 0, same, 0, SAME_SLOTS);
            copies = other.copies;
        }
    }

    /** The codes, told by their order, so that no object has to hold a table of them. */
    private static final class Codes {
        private static final int ADD_OF_ANY = 1;
        private static final int ADD_SIZE_MOST = 17;
        private static final int COPIES = 19;
        private static final int COPIES_OF_MODE = 16;
        private static final int COPY_SIZE_LEAST = 4;
        private static final int COPY_SIZE_MOST = 18;
        private static final int ADD_COPIES = 163;
        private static final int ADD_COPIES_OF_MODE = 12;
        private static final int ADD_SAMES = 235;
        private static final int ADD_SAMES_OF_MODE = 4;
        private static final int COPY_ADDS = 247;

        static int partOf(int code, int part) {
            if (code < ADD_COPIES) {
                return part < 3 ? partOfSingle(code, part) : 0;
            }
            if (code < ADD_SAMES) {
                int k = code - ADD_COPIES;
                int mode = k / ADD_COPIES_OF_MODE;
                int add = k % ADD_COPIES_OF_MODE / 3 + 1;
                return partOfAddCopy(part, add, k % 3 + COPY_SIZE_LEAST, mode);
            }
            if (code < COPY_ADDS) {
                int k = code - ADD_SAMES;
                int mode = k / ADD_SAMES_OF_MODE + SAME_MODE;
                return partOfAddCopy(part, k % ADD_SAMES_OF_MODE + 1, COPY_SIZE_LEAST, mode);
            }
            return partOfCopyAdd(part, code - COPY_ADDS);
        }

        private static int partOfSingle(int code, int part) {
            if (code == 0) {
                return part == 0 ? RUN : 0;
            }
            if (code < COPIES) {
                int size = code - ADD_OF_ANY;
                return part == 0 ? ADD : part == 1 ? size : 0;
            }
            int j = (code - COPIES) % COPIES_OF_MODE;
            int size = j == 0 ? 0 : j + COPY_SIZE_LEAST - 1;
            int mode = (code - COPIES) / COPIES_OF_MODE;
            return part == 0 ? COPY : part == 1 ? size : mode;
        }

        private static int partOfAddCopy(int part, int addSize, int copySize, int mode) {
            switch (part) {
                case 0:
                    return ADD;
                case 1:
                    return addSize;
                case 3:
                    return COPY;
                case 4:
                    return copySize;
                case 5:
                    return mode;
                default:
                    return 0;
            }
        }

        private static int partOfCopyAdd(int part, int mode) {
            switch (part) {
                case 0:
                    return COPY;
                case 1:
                    return COPY_SIZE_LEAST;
                case 2:
                    return mode;
                case 3:
                    return ADD;
                case 4:
                    return 1;
                default:
                    return 0;
            }
        }

        /** The code for one instruction, with its size if there is such a code, else with size 0. */
        static int single(int kind, int size, int mode) {
            if (kind == RUN) {
                return 0;
            }
            if (kind == ADD) {
                return size <= ADD_SIZE_MOST ? ADD_OF_ANY + size : ADD_OF_ANY;
            }
            int any = COPIES + COPIES_OF_MODE * mode;
            boolean sized = size >= COPY_SIZE_LEAST && size <= COPY_SIZE_MOST;
            return sized ? any + size - COPY_SIZE_LEAST + 1 : any;
        }

        /** NONE when there is no such code. */
        static int addThenCopy(int addSize, int copySize, int mode) {
            if (addSize < 1 || addSize > 4 || copySize < COPY_SIZE_LEAST) {
                return NONE;
            }
            if (mode < SAME_MODE) {
                int k = ADD_COPIES_OF_MODE * mode + 3 * (addSize - 1) + copySize - COPY_SIZE_LEAST;
                return copySize <= 6 ? ADD_COPIES + k : NONE;
            }
            int k = ADD_SAMES_OF_MODE * (mode - SAME_MODE) + addSize - 1;
            return copySize == COPY_SIZE_LEAST ? ADD_SAMES + k : NONE;
        }

        /** NONE when there is no such code. */
        static int copyThenAdd(int copySize, int mode, int addSize) {
            return copySize == COPY_SIZE_LEAST && addSize == 1 ? COPY_ADDS + mode : NONE;
        }
    }

    /** The instructions that make one piece of the target. */
    private static final class Instructions {
        private final int[] kinds;
        private final int[] sizes;
        private final int[] modes;
        private int count;

        Instructions() {
            kinds = new int[TARGET_MOST];
            sizes = new int[TARGET_MOST];
            modes = new int[TARGET_MOST];
            count = 0;
        }

        int count() {
            return count;
        }

        void clear() {
            count = 0;
        }

        void append(int kind, int size, int mode) {
            if (count < TARGET_MOST) {
                kinds[count] = kind;
                sizes[count] = size;
                modes[count] = mode;
                count++;
            }
        }

        void appendAddedByte() {
            int last = count - 1;
            if (last >= 0 && kinds[last] == ADD) {
                sizes[last]++;
            } else {
                append(ADD, 1, 0);
            }
        }

        int sizeOf(int k) {
            return k >= 0 && k < count ? sizes[k] : 0;
        }

        int singleCode(int k) {
            return k >= 0 && k < count ? Codes.single(kinds[k], sizes[k], modes[k]) : NONE;
        }

        /** The code for instruction k and the next one together, or NONE. */
        int pairCode(int k) {
            int next = k + 1;
            if (k < 0 || next >= count) {
                return NONE;
            }
            if (kinds[k] == ADD && kinds[next] == COPY) {
                return Codes.addThenCopy(sizes[k], sizes[next], modes[next]);
            }
            if (kinds[k] == COPY && kinds[next] == ADD) {
                return Codes.copyThenAdd(sizes[k], modes[k], sizes[next]);
            }
            return NONE;
        }
    }

    private static final class Encoder {
        private final Row source;
        private final Row target;
        private final Row delta;
        private final Caches caches;
        private final Instructions found;
        private final Row string;
        private final Row data;
        private final Row codes;
        private final Row addresses;
        private final Row body;
        private int copySize;
        private int copyAddress;

        Encoder(Row source, Row target, Row delta) {
            this.source = source;
            this.target = target;
            this.delta = delta;
            caches = new Caches();
            found = new Instructions();
            string = new Row(SOURCE_MOST + TARGET_MOST);
            // An instruction makes at least one byte, or four where its size or an address is written.
            data = new Row(TARGET_MOST);
            codes = new Row(2 * TARGET_MOST);
            addresses = new Row(TARGET_MOST);
            body = new Row(5 * TARGET_MOST);
            copySize = 0;
            copyAddress = 0;
        }

        void writeDelta(int pieceSize) {
            delta.keep(0);
            for (int b : HEAD) {
                delta.append(b);
            }
            caches.clear();
            for (int from = 0; from < target.count(); from += Math.max(1, pieceSize)) {
                takePiece(from, Math.min(from + pieceSize, target.count()));
                findInstructions();
                chooseCodes();
                writeWindow();
            }
        }

        /** The string as it will be when the piece is made: what is yet to be made stands behind here. */
        private void takePiece(int from, int to) {
            string.become(source);
            for (int i = from; i < to; i++) {
                string.append(target.at(i));
            }
            caches.clear();
            found.clear();
            data.keep(0);
            codes.keep(0);
            addresses.keep(0);
            body.keep(0);
        }

        private void findInstructions() {
            int next = source.count();
            for (int here = source.count(); here < string.count(); here++) {
                if (here == next) {
                    next += findInstruction(here);
                }
            }
        }

        /** Answers how many bytes the instruction makes. */
        private int findInstruction(int here) {
            int run = sameBytes(here);
            findCopy(here);
            if (run >= WORTH_IT && run >= copySize) {
                found.append(RUN, run, 0);
                data.append(string.at(here));
                return run;
            }
            if (copySize >= WORTH_IT) {
                found.append(COPY, copySize, writeAddress(copyAddress, here));
                return copySize;
            }
            found.appendAddedByte();
            data.append(string.at(here));
            return 1;
        }

        private int sameBytes(int here) {
            int size = 1;
            while (here + size < string.count() && string.at(here + size) == string.at(here)) {
                size++;
            }
            return size;
        }

        private void findCopy(int here) {
            copySize = 0;
            copyAddress = 0;
            for (int a = 0; a < here; a++) {
                int size = 0;
                while (here + size < string.count() && string.at(a + size) == string.at(here + size)) {
                    size++;
                }
                if (size > copySize) {
                    copySize = size;
                    copyAddress = a;
                }
            }
        }

        /** Answers the mode. */
        private int writeAddress(int address, int here) {
            int slot = Math.floorMod(address, SAME_SLOTS);
            int mode;
            if (caches.same(slot) == address) {
                mode = SAME_MODE + slot / SAME_PAGE;
                addresses.append(slot % SAME_PAGE);
            } else {
                mode = caches.leastMode(address, here);
                addresses.appendInteger(caches.integerFor(mode, address, here));
            }
            caches.learn(address);
            return mode;
        }

        private void chooseCodes() {
            for (int k = 0; k < found.count(); k++) {
                int pair = found.pairCode(k);
                if (pair != NONE) {
                    codes.append(pair);
                    k++;
                } else {
                    int single = found.singleCode(k);
                    codes.append(single);
                    if (Codes.partOf(single, 1) == 0) {
                        codes.appendInteger(found.sizeOf(k));
                    }
                }
            }
        }

        private void writeWindow() {
            if (source.count() == 0) {
                delta.append(FROM_NOTHING);
            } else {
                delta.append(FROM_SOURCE);
                delta.appendInteger(source.count());
                delta.appendInteger(0);
            }
            body.appendInteger(string.count() - source.count());
            body.append(0);
            body.appendInteger(data.count());
            body.appendInteger(codes.count());
            body.appendInteger(addresses.count());
            body.appendRow(data);
            body.appendRow(codes);
            body.appendRow(addresses);
            delta.appendInteger(body.count());
            delta.appendRow(body);
        }
    }

    /** Makes its output aside, so that a refused delta leaves the object as it was. */
    private static final class Decoder {
        private final Row source;
        private final Row made;
        private final Caches caches;
        private final Reader whole;
        private final Reader data;
        private final Reader codes;
        private final Reader addresses;
        private int windowsRead;
        private Row segment;
        private int segmentPlace;
        private int segmentSize;
        private int windowStart;
        private int windowEnd;

        Decoder(Row source, Row delta) {
            this.source = source;
            made = new Row(OUTPUT_MOST);
            caches = new Caches();
            whole = new Reader(delta);
            data = new Reader(delta);
            codes = new Reader(delta);
            addresses = new Reader(delta);
            windowsRead = 0;
            segment = source;
            segmentPlace = 0;
            segmentSize = 0;
            windowStart = 0;
            windowEnd = 0;
        }

        /** Answers how many bytes were made, or why the delta is refused. */
        int readDelta(int bound) {
            made.keep(0);
            caches.clear();
            windowsRead = 0;
            whole.open(0, DELTA_MOST);
            if (!readHead()) {
                return ILLFORMED;
            }
            for (int k = 0; k < DELTA_MOST && whole.left() > 0; k++) {
                int refused = readWindowHead(bound);
                if (refused != 0) {
                    return refused;
                }
                if (!makeWindow()) {
                    return ILLFORMED;
                }
                windowsRead++;
            }
            return made.count();
        }

        private boolean readHead() {
            for (int b : HEAD) {
                if (whole.nextByte() != b) {
                    return false;
                }
            }
            return true;
        }

        /** Answers 0, or why the window is refused. */
        private int readWindowHead(int bound) {
            if (!readSegment()) {
                return ILLFORMED;
            }
            int following = whole.nextInteger();
            int from = whole.place();
            int size = whole.nextInteger();
            if (following == NONE || size == NONE) {
                return ILLFORMED;
            }
            if (size > bound - made.count()) {
                return TOOLONG;
            }
            windowStart = made.count();
            windowEnd = windowStart + size;
            return readParts(from, following) ? 0 : ILLFORMED;
        }

        private boolean readSegment() {
            int from = whole.nextByte();
            segment = from == FROM_OUTPUT ? made : source;
            segmentPlace = 0;
            segmentSize = 0;
            if (from == FROM_NOTHING) {
                return true;
            }
            if (from != FROM_SOURCE && from != FROM_OUTPUT) {
                return false;
            }
            int size = whole.nextInteger();
            int place = whole.nextInteger();
            if (size == NONE || place == NONE || (long) place + size > segment.count()) {
                return false;
            }
            segmentPlace = place;
            segmentSize = size;
            return true;
        }

        private boolean readParts(int from, int following) {
            if (whole.nextByte() != 0) {
                return false;
            }
            int dataSize = whole.nextInteger();
            int codesSize = whole.nextInteger();
            int addressesSize = whole.nextInteger();
            if (dataSize == NONE || codesSize == NONE || addressesSize == NONE) {
                return false;
            }
            long rest = (long) dataSize + codesSize + addressesSize;
            if (rest + whole.place() - from != following || rest > whole.left()) {
                return false;
            }
            int place = whole.place();
            data.open(place, dataSize);
            codes.open(place + dataSize, codesSize);
            addresses.open(place + dataSize + codesSize, addressesSize);
            whole.open(place + (int) rest, DELTA_MOST);
            return true;
        }

        private boolean makeWindow() {
            caches.clear();
            for (int k = 0; k < DELTA_MOST && codes.left() > 0; k++) {
                int code = codes.nextByte();
                if (!follow(code, 0)) {
                    return false;
                }
                if (Codes.partOf(code, 3) != 0 && !follow(code, 3)) {
                    return false;
                }
            }
            return made.count() == windowEnd && data.left() == 0 && addresses.left() == 0;
        }

        /** Follows the instruction of the code whose kind, size and mode are the parts from this one on. */
        private boolean follow(int code, int part) {
            int size = Codes.partOf(code, part + 1);
            if (size == 0) {
                size = codes.nextInteger();
            }
            if (size < 1 || size > windowEnd - made.count()) {
                return false;
            }
            switch (Codes.partOf(code, part)) {
                case ADD:
                    return add(size);
                case RUN:
                    return run(size);
                default:
                    return copy(size, readAddress(Codes.partOf(code, part + 2)));
            }
        }

        private boolean add(int size) {
            if (size > data.left()) {
                return false;
            }
            for (int k = 0; k < size; k++) {
                made.append(data.nextByte());
            }
            return true;
        }

        private boolean run(int size) {
            int b = data.nextByte();
            if (b == NONE) {
                return false;
            }
            for (int k = 0; k < size; k++) {
                made.append(b);
            }
            return true;
        }

        private boolean copy(int size, long address) {
            if (address < 0 || address >= here()) {
                return false;
            }
            for (int k = 0; k < size; k++) {
                made.append(stringAt((int) address + k));
            }
            caches.learn((int) address);
            return true;
        }

        private int here() {
            return segmentSize + made.count() - windowStart;
        }

        private int stringAt(int i) {
            return i < segmentSize
                    ? segment.at(segmentPlace + i)
                    : made.at(windowStart + i - segmentSize);
        }

        /** A number below 0 when there is none. */
        private long readAddress(int mode) {
            if (mode >= SAME_MODE) {
                int b = addresses.nextByte();
                return b == NONE ? NONE : caches.same(SAME_PAGE * (mode - SAME_MODE) + b);
            }
            int integer = addresses.nextInteger();
            return integer == NONE ? NONE : caches.addressFor(mode, integer, here());
        }
    }
}
