import java.util.ArrayList;
import java.util.Arrays;

/** Values packed into bytes in their shortest forms, and read again from any form. */
public final class PackedGraph {
    public static final int NONE = -1;

    private static final int NIL = 0;
    private static final int TRUTH = 1;
    private static final int INTEGER = 2;
    private static final int FLOAT = 3;
    private static final int DOUBLE = 4;
    private static final int TEXT = 5;
    private static final int BYTES = 6;
    private static final int LIST = 7;
    private static final int MAP = 8;
    private static final int EXTENSION = 9;
    private static final int TIME = 10;
    // No kind of a value, but of what is packed.
    private static final int REFERENCE = 11;

    private static final int TIME_TYPE = -1;
    private static final int REFERENCE_TYPE = 0;

    private static final int MOST_VALUES = 3000;
    private static final int MOST_PARTS = 6000;
    private static final int MOST_BYTES = 65536;
    private static final int MOST_OPEN = 24;
    private static final int MOST_NANOS = 999999999;
    private static final int FEED_BYTES = 20;
    private static final int LONG_TIME_BYTES = 12;
    private static final int SHORT_SECONDS_BITS = 34;

    private static final int FAULT_MISSING = 1;
    private static final int FAULT_LEAD = 2;
    private static final int FAULT_CHARACTER = 3;
    private static final int FAULT_TIME = 4;
    private static final int FAULT_REFERENCE = 5;
    private static final int FAULT_DEPTH = 6;
    private static final int FAULT_ROOM = 7;
    private static final int FAULT_LEFT = 8;

    private static final byte[] NO_BYTES = {};
    private static final int[] NO_PARTS = {};

    private final ByteRow tape = new ByteRow();
    private final Values values = new Values();
    private final Reader reader = new Reader();
    private final Packer out = new Packer();
    // The out must stay when values are only measured or compared.
    private final Packer left = new Packer();
    private final Packer right = new Packer();

    public PackedGraph() {
    }

    public int feed(int a, int b, int c, int d, int e) throws UnsupportedOperationException {
        if (tape.size() + FEED_BYTES > MOST_BYTES) {
            throw new UnsupportedOperationException("the tape has no room for twenty bytes more");
        }
        tape.append(a, 4);
        tape.append(b, 4);
        tape.append(c, 4);
        tape.append(d, 4);
        tape.append(e, 4);
        return tape.size();
    }

    public void end(int n) throws IllegalArgumentException {
        if (n < 0 || n > tape.size()) {
            throw new IllegalArgumentException("the tape has not so many bytes");
        }
        tape.cut(n);
    }

    public int unpack() {
        int v = reader.readTape(tape, values);
        tape.cut(0);
        return v;
    }

    public int fault(int what) throws IndexOutOfBoundsException {
        if (what < 0 || what > 1) {
            throw new IndexOutOfBoundsException("a fault has a code (0) and a place (1)");
        }
        return what == 0 ? reader.code : reader.place;
    }

    public int skip(int from) throws IndexOutOfBoundsException {
        if (from < 0 || from >= tape.size()) {
            throw new IndexOutOfBoundsException("the tape has no such byte");
        }
        return reader.endOfValue(tape, from);
    }

    public int pack(int v) throws IndexOutOfBoundsException, UnsupportedOperationException {
        needValue(v);
        if (!out.write(values, v, MOST_BYTES)) {
            throw new UnsupportedOperationException("the value is too deep or too long to be packed");
        }
        return out.packed.size();
    }

    public int shown(int i) throws IndexOutOfBoundsException {
        if (i < 0 || i >= out.packed.size()) {
            throw new IndexOutOfBoundsException("the out has no such byte");
        }
        return out.packed.at(i);
    }

    public int nil() throws UnsupportedOperationException {
        needRoom(0);
        return values.keep(NIL, 0, 0, NO_BYTES);
    }

    public int truth(boolean is) throws UnsupportedOperationException {
        needRoom(0);
        return values.keep(TRUTH, 0, is ? 1 : 0, NO_BYTES);
    }

    public int integer(long v, boolean high) throws UnsupportedOperationException {
        needRoom(0);
        return values.keep(INTEGER, v, high && v < 0 ? 1 : 0, NO_BYTES);
    }

    public int real(long bits, boolean wide) throws UnsupportedOperationException {
        needRoom(0);
        return wide ? values.keep(DOUBLE, bits, 0, NO_BYTES)
                : values.keep(FLOAT, bits & 0xffffffffL, 0, NO_BYTES);
    }

    public int row(int kind) throws IllegalArgumentException, UnsupportedOperationException {
        if (kind != TEXT && kind != BYTES) {
            throw new IllegalArgumentException("a row is a text (5) or bytes (6)");
        }
        if (kind == TEXT && Characters.firstWrong(tape, 0, tape.size()) != NONE) {
            throw new IllegalArgumentException("the tape is no text");
        }
        return keepTape(kind, 0);
    }

    public int extension(int type) throws IllegalArgumentException, UnsupportedOperationException {
        if (type < -128 || type > 127 || type == TIME_TYPE || type == REFERENCE_TYPE) {
            throw new IllegalArgumentException("no extension has this type");
        }
        return keepTape(EXTENSION, type);
    }

    public int time(long seconds, int nanos) throws IllegalArgumentException, UnsupportedOperationException {
        if (nanos < 0 || nanos > MOST_NANOS) {
            throw new IllegalArgumentException("nanos are 0 .. 999999999");
        }
        needRoom(0);
        return values.keep(TIME, seconds, nanos, NO_BYTES);
    }

    public int group(int kind) throws IllegalArgumentException, UnsupportedOperationException {
        if (kind != LIST && kind != MAP) {
            throw new IllegalArgumentException("a group is a list (7) or a map (8)");
        }
        needRoom(0);
        return values.keep(kind, 0, 0, NO_BYTES);
    }

    public int add(int list, int v)
            throws IndexOutOfBoundsException, IllegalArgumentException, UnsupportedOperationException {
        needValue(list);
        needValue(v);
        needKind(list, LIST);
        needParts(1);
        values.hold(1);
        Value to = values.at(list);
        to.append(v);
        return to.length();
    }

    public int put(int map, int key, int v)
            throws IndexOutOfBoundsException, IllegalArgumentException, UnsupportedOperationException {
        needValue(map);
        needValue(key);
        needValue(v);
        needKind(map, MAP);
        needParts(2);
        values.hold(2);
        Value to = values.at(map);
        to.append(key);
        to.append(v);
        return to.length();
    }

    public int about(int v, int what) throws IndexOutOfBoundsException, IllegalArgumentException {
        needValue(v);
        Value value = values.at(v);
        switch (what) {
            case 0:
                return value.kind;
            case 1:
                return value.length();
            case 2:
                // An integer's detail, whether it is high, is no answer here.
                return value.kind == INTEGER ? 0 : value.detail;
            case 3:
                return value.isGroup() || !left.write(values, v, MOST_BYTES) ? 0 : left.packed.size();
            default:
                throw new IllegalArgumentException("what is told of a value is 0 .. 3");
        }
    }

    public long number(int v) throws IndexOutOfBoundsException, IllegalArgumentException, ArithmeticException {
        needValue(v);
        Value value = values.at(v);
        if (value.kind != INTEGER && value.kind != FLOAT && value.kind != DOUBLE && value.kind != TIME) {
            throw new IllegalArgumentException("the value has no number");
        }
        if (value.isHigh()) {
            throw new ArithmeticException("the integer is 2^63 or more");
        }
        return value.number;
    }

    public int part(int v, int i) throws IndexOutOfBoundsException {
        needValue(v);
        Value value = values.at(v);
        if (i >= 0 && i < value.bytes.length) {
            return value.bytes[i] & 255;
        }
        if (i >= 0 && i < value.held) {
            return value.parts[i];
        }
        throw new IndexOutOfBoundsException("the value has no such place");
    }

    public boolean same(int a, int b) throws IndexOutOfBoundsException, UnsupportedOperationException {
        needValue(a);
        needValue(b);
        if (!left.write(values, a, MOST_BYTES) || !right.write(values, b, MOST_BYTES)) {
            throw new UnsupportedOperationException("one of the values cannot be packed");
        }
        return left.packed.hasSameBytes(right.packed);
    }

    public int find(int map, int key)
            throws IndexOutOfBoundsException, IllegalArgumentException, UnsupportedOperationException {
        needValue(map);
        needValue(key);
        needKind(map, MAP);
        if (!left.write(values, key, MOST_BYTES)) {
            throw new UnsupportedOperationException("the value cannot be packed");
        }
        Value in = values.at(map);
        // A key that is longer than the one that is looked for cannot be the same.
        int most = left.packed.size();
        for (int i = 0; i + 1 < in.held; i += 2) {
            if (right.write(values, in.parts[i], most) && left.packed.hasSameBytes(right.packed)) {
                return in.parts[i + 1];
            }
        }
        return NONE;
    }

    public int count(int what) throws IllegalArgumentException {
        switch (what) {
            case 0:
                return values.size();
            case 1:
                return values.partCount;
            case 2:
                return values.byteCount;
            case 3:
                return tape.size();
            case 4:
                return out.packed.size();
            default:
                throw new IllegalArgumentException("what is counted is 0 .. 4");
        }
    }

    public int clear() {
        int gone = values.size();
        values.keepOnly(0, 0, 0);
        return gone;
    }

    private void needValue(int v) {
        if (!values.has(v)) {
            throw new IndexOutOfBoundsException("there is no such value");
        }
    }

    private void needKind(int v, int kind) {
        if (values.at(v).kind != kind) {
            throw new IllegalArgumentException("the value is of another kind");
        }
    }

    private void needRoom(int bytes) {
        if (!values.takes(bytes)) {
            throw new UnsupportedOperationException("there is no room for this value");
        }
    }

    private void needParts(int n) {
        if (!values.takesParts(n)) {
            throw new UnsupportedOperationException("there are too many values in lists and maps");
        }
    }

    private int keepTape(int kind, int detail) {
        needRoom(tape.size());
        int v = values.keep(kind, 0, detail, tape.slice(0, tape.size()));
        tape.cut(0);
        return v;
    }

    /** A row of bytes that grows: most objects never need the document's most. */
    private static final class ByteRow {
        private byte[] bytes = new byte[64];
        private int size;

        int size() {
            return size;
        }

        int at(int i) {
            return bytes[i] & 255;
        }

        /** The lowest n bytes of a number, the highest first. */
        void append(long number, int n) {
            // Never more than eight bytes come here, so that twice the length is enough.
            if (size + n > bytes.length) {
                bytes = Arrays.copyOf(bytes, 2 * bytes.length);
            }
            for (int i = n - 1; i >= 0; i--) {
                bytes[size] = (byte) (number >> 8 * i);
                size++;
            }
        }

        void appendAll(byte[] more) {
            if (size + more.length > bytes.length) {
                bytes = Arrays.copyOf(bytes, Math.max(size + more.length, 2 * bytes.length));
            }
            System.arraycopy(more, 0, bytes, size, more.length);
            size += more.length;
        }

        void cut(int n) {
            size = n;
        }

        /** n bytes as a number without a sign, the highest first. */
        long bigEndian(int from, int n) {
            long number = 0;
            for (int i = 0; i < n; i++) {
                number = number << 8 | bytes[from + i] & 255;
            }
            return number;
        }

        byte[] slice(int from, int n) {
            return n == 0 ? NO_BYTES : Arrays.copyOfRange(bytes, from, from + n);
        }

        boolean hasSameBytes(ByteRow other) {
            if (size != other.size) {
                return false;
            }
            for (int i = 0; i < size; i++) {
                if (bytes[i] != other.bytes[i]) {
                    return false;
                }
            }
            return true;
        }
    }

    /** What UTF-8 is. */
    private static final class Characters {
        /** The place of the first character that is none, or is not there wholly; else NONE. */
        static int firstWrong(ByteRow row, int from, int to) {
            int at = from;
            while (at < to) {
                int n = lengthAt(row, at, to);
                if (n <= 0) {
                    return at;
                }
                at += n;
            }
            return NONE;
        }

        private static int lengthAt(ByteRow row, int at, int to) {
            int lead = row.at(at);
            int n = saidLength(lead);
            if (n <= 1 || n > to - at) {
                return n == 1 ? 1 : 0;
            }
            int character = lead & 127 >> n;
            for (int i = 1; i < n; i++) {
                int next = row.at(at + i);
                if ((next & 0xc0) != 0x80) {
                    return 0;
                }
                character = character << 6 | next & 63;
            }
            return shortestLength(character) == n ? n : 0;
        }

        private static int saidLength(int lead) {
            if (lead < 0x80) {
                return 1;
            }
            if (lead < 0xc0) {
                return 0;
            }
            if (lead < 0xe0) {
                return 2;
            }
            if (lead < 0xf0) {
                return 3;
            }
            return lead < 0xf8 ? 4 : 0;
        }

        /** 0 for a number that is no character. */
        private static int shortestLength(int character) {
            if (character > 1114111 || character >= 55296 && character <= 57343) {
                return 0;
            }
            if (character < 128) {
                return 1;
            }
            if (character < 2048) {
                return 2;
            }
            return character < 65536 ? 3 : 4;
        }
    }

    private static final class Value {
        private final int kind;
        /** Which place it has among the values. */
        private final int index;
        private final long number;
        /** A truth; an extension's type; a time's nanos; of an integer 1, if it is 2^63 or more. */
        private final int detail;
        private final byte[] bytes;
        private int[] parts = NO_PARTS;
        private int held;
        /** As which one a list or map was come to in the packing that goes on. */
        private int turn = NONE;

        Value(int kind, int index, long number, int detail, byte[] bytes) {
            this.kind = kind;
            this.index = index;
            this.number = number;
            this.detail = detail;
            this.bytes = bytes;
        }

        boolean isGroup() {
            return kind == LIST || kind == MAP;
        }

        boolean isHigh() {
            return kind == INTEGER && detail == 1;
        }

        int length() {
            if (isGroup()) {
                return kind == MAP ? held / 2 : held;
            }
            return bytes.length;
        }

        void append(int v) {
            if (held == parts.length) {
                parts = Arrays.copyOf(parts, Math.max(4, 2 * held));
            }
            parts[held] = v;
            held++;
        }
    }

    private static final class Values {
        private final ArrayList<Value> all = new ArrayList<>();
        private int partCount;
        private int byteCount;

        int size() {
            return all.size();
        }

        boolean has(int v) {
            return v >= 0 && v < all.size();
        }

        Value at(int v) {
            return all.get(v);
        }

        boolean takes(int bytes) {
            return all.size() < MOST_VALUES && byteCount + bytes <= MOST_BYTES;
        }

        boolean takesParts(long n) {
            return partCount + n <= MOST_PARTS;
        }

        /** Parts are counted before they come: a list that is read claims all that it says. */
        void hold(int n) {
            partCount += n;
        }

        int keep(int kind, long number, int detail, byte[] bytes) {
            int v = all.size();
            all.add(new Value(kind, v, number, detail, bytes));
            byteCount += bytes.length;
            return v;
        }

        void keepOnly(int size, int parts, int bytes) {
            for (int i = all.size() - 1; i >= size; i--) {
                all.remove(i);
            }
            partCount = parts;
            byteCount = bytes;
        }
    }

    /** What the first bytes of a packed value say of it. */
    private static final class Lead {
        // Of the lead bytes c0 .. df in turn.
        private static final int[] KINDS = {
            NIL, NONE, TRUTH, TRUTH, BYTES, BYTES, BYTES, EXTENSION, EXTENSION, EXTENSION, FLOAT, DOUBLE,
            INTEGER, INTEGER, INTEGER, INTEGER, INTEGER, INTEGER, INTEGER, INTEGER,
            EXTENSION, EXTENSION, EXTENSION, EXTENSION, EXTENSION, TEXT, TEXT, TEXT, LIST, LIST, MAP, MAP
        };
        private static final int[] LENGTH_BYTES = {
            0, 0, 0, 0, 1, 2, 4, 1, 2, 4, 0, 0, 0, 0, 0, 0, 0, 0, 0, 0, 0, 0, 0, 0, 0, 1, 2, 4, 2, 4, 2, 4
        };
        private static final int[] FIXED_LENGTHS = {
            0, 0, 0, 0, 0, 0, 0, 0, 0, 0, 4, 8, 1, 2, 4, 8, 1, 2, 4, 8, 1, 2, 4, 8, 16, 0, 0, 0, 0, 0, 0, 0
        };

        /** NONE for the byte that leads no value. */
        private int kind;
        private int head;
        /** How many bytes are behind the head; of a list or map how many values. */
        private long body;
        /** Of an extension, else 0. */
        private int type;

        void look(ByteRow tape, int at) {
            int lead = tape.at(at);
            type = 0;
            if (lead < 0x80 || lead >= 0xe0) {
                take(INTEGER, 1, 0);
            } else if (lead < 0x90) {
                take(MAP, 1, 2 * (lead & 15));
            } else if (lead < 0xa0) {
                take(LIST, 1, lead & 15);
            } else if (lead < 0xc0) {
                take(TEXT, 1, lead & 31);
            } else {
                lookUp(tape, at, lead - 0xc0);
            }
            if (kind == EXTENSION) {
                lookAtType(tape, at + head);
            }
        }

        boolean isGroup() {
            return kind == LIST || kind == MAP;
        }

        /** How many bytes must be there before any value within begins. */
        long ownBytes() {
            return isGroup() ? head : head + body;
        }

        private void lookUp(ByteRow tape, int at, int row) {
            int width = LENGTH_BYTES[row];
            long length = FIXED_LENGTHS[row];
            // A length that is not there wholly counts as 0: the head alone is too long then.
            if (width > 0 && width < tape.size() - at) {
                length = tape.bigEndian(at + 1, width);
            }
            take(KINDS[row], 1 + width, KINDS[row] == MAP ? 2 * length : length);
        }

        private void lookAtType(ByteRow tape, int at) {
            head++;
            if (at < tape.size()) {
                type = (byte) tape.at(at);
                kind = type == TIME_TYPE ? TIME : type == REFERENCE_TYPE ? REFERENCE : EXTENSION;
            }
        }

        private void take(int newKind, int newHead, long newBody) {
            kind = newKind;
            head = newHead;
            body = newBody;
        }
    }

    /** Reads a tape, and knows the fault of the latest reading. */
    private static final class Reader {
        private final Lead lead = new Lead();
        private final ArrayList<Value> groups = new ArrayList<>();
        private int at;
        private int code;
        private int place;

        int readTape(ByteRow tape, Values values) {
            int size = values.size();
            int parts = values.partCount;
            int bytes = values.byteCount;
            at = 0;
            code = 0;
            place = 0;
            int v = readValue(tape, values, 0);
            if (code == 0 && at < tape.size()) {
                v = refuse(FAULT_LEFT, at);
            }
            if (code != 0) {
                values.keepOnly(size, parts, bytes);
            }
            groups.clear();
            return v;
        }

        int endOfValue(ByteRow tape, int from) {
            long due = 1;
            int next = from;
            // No value is without a byte, so there are never more of them.
            for (int i = from; i < tape.size() && due > 0; i++) {
                if (next >= tape.size()) {
                    return NONE;
                }
                lead.look(tape, next);
                if (lead.kind == NONE || lead.ownBytes() > tape.size() - next) {
                    return NONE;
                }
                next += (int) lead.ownBytes();
                due += lead.isGroup() ? lead.body - 1 : -1;
            }
            return due == 0 ? next : NONE;
        }

        private int refuse(int newCode, int newPlace) {
            code = newCode;
            place = newPlace;
            return NONE;
        }

        private int readValue(ByteRow tape, Values values, int open) {
            int from = at;
            if (from >= tape.size()) {
                return refuse(FAULT_MISSING, from);
            }
            lead.look(tape, from);
            if (lead.kind == NONE) {
                return refuse(FAULT_LEAD, from);
            }
            if (lead.ownBytes() > tape.size() - from) {
                return refuse(FAULT_MISSING, from);
            }
            at = from + (int) lead.ownBytes();
            switch (lead.kind) {
                case LIST:
                case MAP:
                    return readGroup(tape, values, from, open);
                case TEXT:
                case BYTES:
                case EXTENSION:
                    return readRow(tape, values, from);
                case TIME:
                    return readTime(tape, values, from);
                case REFERENCE:
                    return readReference(tape, from);
                default:
                    return readPlain(tape, values, from);
            }
        }

        private int readGroup(ByteRow tape, Values values, int from, int open) {
            if (open >= MOST_OPEN) {
                return refuse(FAULT_DEPTH, from);
            }
            if (!values.takes(0) || !values.takesParts(lead.body)) {
                return refuse(FAULT_ROOM, from);
            }
            // The values within look at leads of their own.
            int n = (int) lead.body;
            values.hold(n);
            int v = values.keep(lead.kind, 0, 0, NO_BYTES);
            Value group = values.at(v);
            groups.add(group);
            for (int i = 0; i < n; i++) {
                int within = readValue(tape, values, open + 1);
                if (within == NONE) {
                    return NONE;
                }
                group.append(within);
            }
            return v;
        }

        private int readRow(ByteRow tape, Values values, int from) {
            int start = from + lead.head;
            int n = (int) lead.body;
            int wrong = lead.kind == TEXT ? Characters.firstWrong(tape, start, at) : NONE;
            if (wrong != NONE) {
                return refuse(FAULT_CHARACTER, wrong);
            }
            if (!values.takes(n)) {
                return refuse(FAULT_ROOM, from);
            }
            return values.keep(lead.kind, 0, lead.type, tape.slice(start, n));
        }

        private int readTime(ByteRow tape, Values values, int from) {
            int start = from + lead.head;
            long seconds = 0;
            long nanos = 0;
            if (lead.body == 4) {
                seconds = tape.bigEndian(start, 4);
            } else if (lead.body == 8) {
                long both = tape.bigEndian(start, 8);
                seconds = both & (1L << SHORT_SECONDS_BITS) - 1;
                nanos = both >>> SHORT_SECONDS_BITS;
            } else if (lead.body == LONG_TIME_BYTES) {
                nanos = tape.bigEndian(start, 4);
                seconds = tape.bigEndian(start + 4, 8);
            } else {
                return refuse(FAULT_TIME, from);
            }
            if (nanos > MOST_NANOS) {
                return refuse(FAULT_TIME, from);
            }
            return keepPlain(values, from, TIME, seconds, (int) nanos);
        }

        private int readReference(ByteRow tape, int from) {
            int start = from + lead.head;
            int n = at - start;
            if (n == 0) {
                return refuse(FAULT_REFERENCE, from);
            }
            lead.look(tape, start);
            if (lead.kind != INTEGER || lead.ownBytes() != n) {
                return refuse(FAULT_REFERENCE, from);
            }
            // What is 2^63 or more is below 0 here, and names nothing either.
            long turn = readInteger(tape, start);
            if (turn < 0 || turn >= groups.size()) {
                return refuse(FAULT_REFERENCE, from);
            }
            return groups.get((int) turn).index;
        }

        private int readPlain(ByteRow tape, Values values, int from) {
            if (lead.kind == TRUTH) {
                return keepPlain(values, from, TRUTH, 0, tape.at(from) - 0xc2);
            }
            if (lead.kind == INTEGER) {
                long number = readInteger(tape, from);
                return keepPlain(values, from, INTEGER, number, number < 0 && tape.at(from) == 0xcf ? 1 : 0);
            }
            return keepPlain(values, from, lead.kind, tape.bigEndian(from + 1, (int) lead.body), 0);
        }

        private long readInteger(ByteRow tape, int from) {
            int first = tape.at(from);
            int width = (int) lead.body;
            if (width == 0) {
                return (byte) first;
            }
            long number = tape.bigEndian(from + 1, width);
            int unused = 64 - 8 * width;
            return first >= 0xd0 ? number << unused >> unused : number;
        }

        private int keepPlain(Values values, int from, int kind, long number, int detail) {
            return values.takes(0) ? values.keep(kind, number, detail, NO_BYTES) : refuse(FAULT_ROOM, from);
        }
    }

    /** Packs one value at a time into a row of its own. */
    private static final class Packer {
        private final ByteRow packed = new ByteRow();
        private final ArrayList<Value> come = new ArrayList<>();
        private int most;
        private boolean failed;

        /** Whether the value can be packed into so many bytes; if not, nothing is. */
        boolean write(Values values, int v, int mostBytes) {
            packed.cut(0);
            most = mostBytes;
            failed = false;
            writeValue(values, values.at(v), 0);
            if (failed) {
                packed.cut(0);
            }
            for (int i = 0; i < come.size(); i++) {
                come.get(i).turn = NONE;
            }
            come.clear();
            return !failed;
        }

        private void writeValue(Values values, Value value, int open) {
            if (value.turn != NONE) {
                writeReference(value.turn);
                return;
            }
            switch (value.kind) {
                case NIL:
                    writeBytes(0xc0, 1);
                    break;
                case TRUTH:
                    writeBytes(0xc2 + value.detail, 1);
                    break;
                case INTEGER:
                    writeInteger(value.number, value.isHigh());
                    break;
                case FLOAT:
                    writeBytes(0xca, 1);
                    writeBytes(value.number, 4);
                    break;
                case DOUBLE:
                    writeBytes(0xcb, 1);
                    writeBytes(value.number, 8);
                    break;
                case TIME:
                    writeTime(value.number, value.detail);
                    break;
                case LIST:
                case MAP:
                    beginGroup(value, open);
                    for (int i = 0; i < value.held && !failed; i++) {
                        writeValue(values, values.at(value.parts[i]), open + 1);
                    }
                    break;
                default:
                    writeRow(value);
                    break;
            }
        }

        private void beginGroup(Value group, int open) {
            if (open >= MOST_OPEN) {
                failed = true;
                return;
            }
            group.turn = come.size();
            come.add(group);
            int n = group.length();
            if (n < 16) {
                writeBytes((group.kind == LIST ? 0x90 : 0x80) + n, 1);
            } else {
                // There are never so many that two bytes are too few.
                writeBytes(group.kind == LIST ? 0xdc : 0xde, 1);
                writeBytes(n, 2);
            }
        }

        private void writeReference(int turn) {
            int step = integerStep(turn, false);
            int n = step == NONE ? 1 : 1 + (1 << step);
            writeHead(extensionLead(n), 0xc7, n);
            writeBytes(REFERENCE_TYPE, 1);
            writeInteger(turn, false);
        }

        private void writeTime(long seconds, int nanos) {
            boolean isShort = seconds >> SHORT_SECONDS_BITS == 0;
            boolean isShortest = nanos == 0 && seconds >> 32 == 0;
            int n = isShortest ? 4 : isShort ? 8 : LONG_TIME_BYTES;
            writeHead(extensionLead(n), 0xc7, n);
            writeBytes(TIME_TYPE, 1);
            if (isShortest) {
                writeBytes(seconds, 4);
            } else if (isShort) {
                writeBytes((long) nanos << SHORT_SECONDS_BITS | seconds, 8);
            } else {
                writeBytes(nanos, 4);
                writeBytes(seconds, 8);
            }
        }

        private void writeRow(Value value) {
            int n = value.bytes.length;
            if (value.kind == TEXT) {
                writeHead(n < 32 ? 0xa0 + n : NONE, 0xd9, n);
            } else if (value.kind == BYTES) {
                writeHead(NONE, 0xc4, n);
            } else {
                writeHead(extensionLead(n), 0xc7, n);
                writeBytes(value.detail, 1);
            }
            if (fits(n)) {
                packed.appendAll(value.bytes);
            }
        }

        /** A lead that says the length too, or else (NONE) the one for one byte of it, 2 and 4 behind it. */
        private void writeHead(int whole, int lead, int n) {
            if (whole != NONE) {
                writeBytes(whole, 1);
                return;
            }
            int step = n < 256 ? 0 : n < 65536 ? 1 : 2;
            writeBytes(lead + step, 1);
            writeBytes(n, 1 << step);
        }

        private static int extensionLead(int n) {
            for (int step = 0; step < 5; step++) {
                if (n == 1 << step) {
                    return 0xd4 + step;
                }
            }
            return NONE;
        }

        private void writeInteger(long v, boolean high) {
            int step = integerStep(v, high);
            if (step == NONE) {
                writeBytes(v, 1);
            } else {
                writeBytes((high || v >= 0 ? 0xcc : 0xd0) + step, 1);
                writeBytes(v, 1 << step);
            }
        }

        /** 0 .. 3 for 1, 2, 4 or 8 bytes behind the lead; NONE for an integer that is its own lead. */
        private static int integerStep(long v, boolean high) {
            if (high) {
                return 3;
            }
            if (v >= -32 && v < 128) {
                return NONE;
            }
            // Below 0 a byte has one bit less: ~v has as many bits as the number's figures need.
            long bits = v < 0 ? ~v << 1 : v;
            if (bits >> 8 == 0) {
                return 0;
            }
            if (bits >> 16 == 0) {
                return 1;
            }
            return bits >> 32 == 0 ? 2 : 3;
        }

        private void writeBytes(long number, int n) {
            if (fits(n)) {
                packed.append(number, n);
            }
        }

        /** Once something did not fit, nothing behind it does. */
        private boolean fits(int n) {
            failed = failed || packed.size() + n > most;
            return !failed;
        }
    }
}
