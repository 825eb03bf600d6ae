import java.io.ByteArrayOutputStream;
import java.math.BigInteger;
import java.nio.ByteBuffer;
import java.nio.CharBuffer;
import java.nio.charset.CharsetDecoder;
import java.nio.charset.CoderResult;
import java.nio.charset.CodingErrorAction;
import java.nio.charset.StandardCharsets;
import java.util.ArrayList;
import java.util.Arrays;
import java.util.IdentityHashMap;
import java.util.List;
import java.util.Map;

/** The document once more, with the Java library and without a care for cost: what ModelTest compares with. */
final class Model {
    private static final BigInteger TWO_63 = BigInteger.ONE.shiftLeft(63);
    private static final BigInteger TWO_64 = BigInteger.ONE.shiftLeft(64);

    /** Thrown where reading ends. */
    private static final class Fault extends RuntimeException {
        private static final long serialVersionUID = 1;
        private final int code;
        private final int place;

        Fault(int code, int place) {
            super(null, null, false, false);
            this.code = code;
            this.place = place;
        }
    }

    private static final class Node {
        private final int kind;
        private BigInteger number = BigInteger.ZERO;
        private int detail;
        private byte[] bytes = {};
        private List<Node> parts = new ArrayList<>();

        Node(int kind) {
            this.kind = kind;
        }
    }

    private List<Node> values = new ArrayList<>();
    private byte[] tape = {};
    private byte[] out = {};
    private int code;
    private int place;
    // Of the reading that goes on.
    private int at;
    private List<Node> groups;
    private int promised;

    int feed(int a, int b, int c, int d, int e) {
        if (tape.length + 20 > 65536) {
            throw new UnsupportedOperationException();
        }
        byte[] twenty = ByteBuffer.allocate(20).putInt(a).putInt(b).putInt(c).putInt(d).putInt(e).array();
        int before = tape.length;
        tape = Arrays.copyOf(tape, before + 20);
        System.arraycopy(twenty, 0, tape, before, 20);
        return tape.length;
    }

    void end(int n) {
        if (n < 0 || n > tape.length) {
            throw new IllegalArgumentException();
        }
        tape = Arrays.copyOf(tape, n);
    }

    int unpack() {
        List<Node> before = values;
        values = new ArrayList<>(before);
        groups = new ArrayList<>();
        promised = count(1);
        at = 0;
        code = 0;
        place = 0;
        int answer = before.size();
        try {
            read(0);
            if (at < tape.length) {
                throw new Fault(8, at);
            }
        } catch (Fault fault) {
            code = fault.code;
            place = fault.place;
            values = before;
            answer = -1;
        }
        tape = new byte[0];
        return answer;
    }

    private byte[] take(int n, int from) {
        if (n > tape.length - at) {
            throw new Fault(1, from);
        }
        at += n;
        return Arrays.copyOfRange(tape, at - n, at);
    }

    private int takeLength(int width, int from) {
        BigInteger n = new BigInteger(1, take(width, from));
        // What is more than any tape has stays so.
        return n.min(BigInteger.valueOf(1 << 24)).intValue();
    }

    private Node read(int open) {
        int from = at;
        int lead = take(1, from)[0] & 255;
        if (lead < 0x80 || lead >= 0xe0) {
            return kept(plain(2, BigInteger.valueOf((byte) lead), 0), from);
        } else if (lead < 0x90) {
            return readGroup(8, 2 * (lead - 0x80), from, open);
        } else if (lead < 0xa0) {
            return readGroup(7, lead - 0x90, from, open);
        } else if (lead < 0xc0) {
            return readRow(5, lead - 0xa0, from);
        }
        switch (lead) {
            case 0xc0: return kept(new Node(0), from);
            case 0xc1: throw new Fault(2, from);
            case 0xc2: case 0xc3: return kept(plain(1, BigInteger.ZERO, lead - 0xc2), from);
            case 0xc4: case 0xc5: case 0xc6: return readRow(6, takeLength(1 << lead - 0xc4, from), from);
            case 0xc7: case 0xc8: case 0xc9: return readExtension(takeLength(1 << lead - 0xc7, from), from);
            case 0xca: return kept(plain(3, new BigInteger(1, take(4, from)), 0), from);
            case 0xcb: return kept(plain(4, new BigInteger(1, take(8, from)), 0), from);
            case 0xcc: case 0xcd: case 0xce: case 0xcf:
                return kept(plain(2, new BigInteger(1, take(1 << lead - 0xcc, from)), 0), from);
            case 0xd0: case 0xd1: case 0xd2: case 0xd3:
                return kept(plain(2, new BigInteger(take(1 << lead - 0xd0, from)), 0), from);
            case 0xd4: case 0xd5: case 0xd6: case 0xd7: case 0xd8: return readExtension(1 << lead - 0xd4, from);
            case 0xd9: case 0xda: case 0xdb: return readRow(5, takeLength(1 << lead - 0xd9, from), from);
            case 0xdc: case 0xdd: return readGroup(7, takeLength(2 << lead - 0xdc, from), from, open);
            default: return readGroup(8, 2 * takeLength(2 << lead - 0xde, from), from, open);
        }
    }

    private static Node plain(int kind, BigInteger number, int detail) {
        Node node = new Node(kind);
        node.number = number;
        node.detail = detail;
        return node;
    }

    private Node kept(Node node, int from) {
        if (!hasRoom(node.bytes.length)) {
            throw new Fault(7, from);
        }
        values.add(node);
        return node;
    }

    private boolean hasRoom(int bytes) {
        return values.size() + 1 <= 3000 && count(2) + bytes <= 65536;
    }

    private Node readRow(int kind, int n, int from) {
        byte[] bytes = take(n, from);
        Node node = new Node(kind);
        node.bytes = bytes;
        if (kind == 5 && wrongCharacter(bytes) >= 0) {
            throw new Fault(3, at - n + wrongCharacter(bytes));
        }
        return kept(node, from);
    }

    private static int wrongCharacter(byte[] bytes) {
        CharsetDecoder decoder = StandardCharsets.UTF_8.newDecoder()
            .onMalformedInput(CodingErrorAction.REPORT).onUnmappableCharacter(CodingErrorAction.REPORT);
        ByteBuffer in = ByteBuffer.wrap(bytes);
        CoderResult result = decoder.decode(in, CharBuffer.allocate(bytes.length + 2), true);
        return result.isError() ? in.position() : -1;
    }

    private Node readExtension(int n, int from) {
        int type = take(1, from)[0];
        byte[] bytes = take(n, from);
        if (type == 0) {
            return reference(bytes, from);
        }
        Node node = new Node(type == -1 ? 10 : 9);
        if (type == -1) {
            readTime(node, bytes, from);
        } else {
            node.bytes = bytes;
            node.detail = type;
        }
        return kept(node, from);
    }

    private static void readTime(Node node, byte[] bytes, int from) {
        BigInteger nanos;
        BigInteger all = new BigInteger(1, bytes);
        if (bytes.length == 4) {
            nanos = BigInteger.ZERO;
            node.number = all;
        } else if (bytes.length == 8) {
            BigInteger[] both = all.divideAndRemainder(BigInteger.ONE.shiftLeft(34));
            nanos = both[0];
            node.number = both[1];
        } else if (bytes.length == 12) {
            nanos = new BigInteger(1, Arrays.copyOf(bytes, 4));
            node.number = new BigInteger(Arrays.copyOfRange(bytes, 4, 12));
        } else {
            throw new Fault(4, from);
        }
        if (nanos.compareTo(BigInteger.valueOf(999999999)) > 0) {
            throw new Fault(4, from);
        }
        node.detail = nanos.intValue();
    }

    private Node reference(byte[] bytes, int from) {
        // A model of its own reads the bytes as a tape.
        Model inner = new Model();
        inner.tape = bytes;
        if (inner.unpack() != 0 || inner.values.get(0).kind != 2) {
            throw new Fault(5, from);
        }
        BigInteger n = inner.values.get(0).number;
        if (n.signum() < 0 || n.compareTo(BigInteger.valueOf(groups.size())) >= 0) {
            throw new Fault(5, from);
        }
        return groups.get(n.intValue());
    }

    private Node readGroup(int kind, int parts, int from, int open) {
        if (open == 24) {
            throw new Fault(6, from);
        }
        if (values.size() == 3000 || promised + parts > 6000) {
            throw new Fault(7, from);
        }
        promised += parts;
        Node node = new Node(kind);
        values.add(node);
        groups.add(node);
        for (int i = 0; i < parts; i++) {
            if (at == tape.length) {
                throw new Fault(1, at);
            }
            node.parts.add(read(open + 1));
        }
        return node;
    }

    int fault(int what) {
        if (what != 0 && what != 1) {
            throw new IndexOutOfBoundsException();
        }
        return what == 0 ? code : place;
    }

    int skip(int from) {
        if (from < 0 || from >= tape.length) {
            throw new IndexOutOfBoundsException();
        }
        at = from;
        try {
            pass();
        } catch (Fault fault) {
            return -1;
        }
        return at;
    }

    private void pass() {
        int lead = take(1, 0)[0] & 255;
        int group = 0;
        if (lead >= 0x80 && lead < 0x90) {
            group = 2 * (lead & 15);
        } else if (lead >= 0x90 && lead < 0xa0) {
            group = lead & 15;
        } else if (lead >= 0xa0 && lead < 0xc0) {
            take(lead & 31, 0);
        } else if (lead == 0xc1) {
            throw new Fault(2, 0);
        } else if (lead >= 0xc4 && lead <= 0xc6) {
            take(takeLength(1 << lead - 0xc4, 0), 0);
        } else if (lead >= 0xc7 && lead <= 0xc9) {
            take(1 + takeLength(1 << lead - 0xc7, 0), 0);
        } else if (lead == 0xca || lead == 0xcb) {
            take(lead == 0xca ? 4 : 8, 0);
        } else if (lead >= 0xcc && lead <= 0xd3) {
            take(1 << (lead & 3), 0);
        } else if (lead >= 0xd4 && lead <= 0xd8) {
            take(1 + (1 << lead - 0xd4), 0);
        } else if (lead >= 0xd9 && lead <= 0xdb) {
            take(takeLength(1 << lead - 0xd9, 0), 0);
        } else if (lead >= 0xdc && lead <= 0xdf) {
            int n = takeLength(lead % 2 == 0 ? 2 : 4, 0);
            group = lead < 0xde ? n : 2 * n;
        }
        for (int i = 0; i < group; i++) {
            pass();
        }
    }

    private Node at(int v) {
        if (v < 0 || v >= values.size()) {
            throw new IndexOutOfBoundsException();
        }
        return values.get(v);
    }

    int pack(int v) {
        Node node = at(v);
        out = new byte[0];
        out = packed(node);
        return out.length;
    }

    private static byte[] packed(Node node) {
        ByteArrayOutputStream to = new ByteArrayOutputStream();
        write(node, 0, to, new IdentityHashMap<>());
        if (to.size() > 65536) {
            throw new UnsupportedOperationException();
        }
        return to.toByteArray();
    }

    private static boolean canBePacked(Node node) {
        try {
            packed(node);
            return true;
        } catch (UnsupportedOperationException e) {
            return false;
        }
    }

    private static void bigEndian(ByteArrayOutputStream to, BigInteger number, int n) {
        for (int i = n - 1; i >= 0; i--) {
            to.write(number.shiftRight(8 * i).intValue());
        }
    }

    private static void lead(ByteArrayOutputStream to, int lead, long number, int n) {
        to.write(lead);
        bigEndian(to, BigInteger.valueOf(number), n);
    }

    private static void write(Node node, int open, ByteArrayOutputStream to, Map<Node, Integer> come) {
        if (to.size() > 65536) {
            throw new UnsupportedOperationException();
        }
        int n = node.bytes.length;
        switch (node.kind) {
            case 0: to.write(0xc0); break;
            case 1: to.write(0xc2 + node.detail); break;
            case 2: writeInteger(node.number, to); break;
            case 3: to.write(0xca); bigEndian(to, node.number, 4); break;
            case 4: to.write(0xcb); bigEndian(to, node.number, 8); break;
            case 5:
                if (n <= 31) {
                    to.write(0xa0 + n);
                } else if (n <= 255) {
                    lead(to, 0xd9, n, 1);
                } else if (n <= 65535) {
                    lead(to, 0xda, n, 2);
                } else {
                    lead(to, 0xdb, n, 4);
                }
                to.writeBytes(node.bytes);
                break;
            case 6:
                if (n <= 255) {
                    lead(to, 0xc4, n, 1);
                } else if (n <= 65535) {
                    lead(to, 0xc5, n, 2);
                } else {
                    lead(to, 0xc6, n, 4);
                }
                to.writeBytes(node.bytes);
                break;
            case 9: writeExtension(node.detail, node.bytes, to); break;
            case 10: writeTime(node, to); break;
            default: writeGroup(node, open, to, come); break;
        }
    }

    private static void writeGroup(Node node, int open, ByteArrayOutputStream to, Map<Node, Integer> come) {
        if (come.containsKey(node)) {
            ByteArrayOutputStream number = new ByteArrayOutputStream();
            writeInteger(BigInteger.valueOf(come.get(node)), number);
            writeExtension(0, number.toByteArray(), to);
            return;
        }
        if (open >= 24) {
            throw new UnsupportedOperationException();
        }
        come.put(node, come.size());
        int n = node.kind == 7 ? node.parts.size() : node.parts.size() / 2;
        if (n <= 15) {
            to.write((node.kind == 7 ? 0x90 : 0x80) + n);
        } else {
            lead(to, node.kind == 7 ? 0xdc : 0xde, n, 2);
        }
        for (Node part : node.parts) {
            write(part, open + 1, to, come);
        }
    }

    private static void writeInteger(BigInteger v, ByteArrayOutputStream to) {
        if (v.compareTo(BigInteger.valueOf(-32)) >= 0 && v.compareTo(BigInteger.valueOf(127)) <= 0) {
            to.write(v.intValue());
            return;
        }
        for (int step = 0; step < 4; step++) {
            int bits = 8 << step;
            if (v.signum() >= 0 ? v.bitLength() <= bits : v.bitLength() < bits) {
                to.write((v.signum() >= 0 ? 0xcc : 0xd0) + step);
                bigEndian(to, v, 1 << step);
                return;
            }
        }
        throw new IllegalStateException("no such integer");
    }

    private static void writeExtension(int type, byte[] bytes, ByteArrayOutputStream to) {
        int n = bytes.length;
        List<Integer> fixed = List.of(1, 2, 4, 8, 16);
        if (fixed.contains(n)) {
            to.write(0xd4 + fixed.indexOf(n));
        } else if (n <= 255) {
            lead(to, 0xc7, n, 1);
        } else if (n <= 65535) {
            lead(to, 0xc8, n, 2);
        } else {
            lead(to, 0xc9, n, 4);
        }
        to.write(type);
        to.writeBytes(bytes);
    }

    private static void writeTime(Node node, ByteArrayOutputStream to) {
        ByteArrayOutputStream bytes = new ByteArrayOutputStream();
        BigInteger nanos = BigInteger.valueOf(node.detail);
        boolean below = node.number.signum() < 0;
        if (!below && node.number.bitLength() <= 32 && node.detail == 0) {
            bigEndian(bytes, node.number, 4);
        } else if (!below && node.number.bitLength() <= 34) {
            bigEndian(bytes, nanos.shiftLeft(34).add(node.number), 8);
        } else {
            bigEndian(bytes, nanos, 4);
            bigEndian(bytes, node.number, 8);
        }
        writeExtension(-1, bytes.toByteArray(), to);
    }

    int shown(int i) {
        if (i < 0 || i >= out.length) {
            throw new IndexOutOfBoundsException();
        }
        return out[i] & 255;
    }

    private int made(Node node) {
        if (!hasRoom(node.bytes.length)) {
            throw new UnsupportedOperationException();
        }
        values.add(node);
        return values.size() - 1;
    }

    int nil() {
        return made(new Node(0));
    }

    int truth(boolean is) {
        return made(plain(1, BigInteger.ZERO, is ? 1 : 0));
    }

    int integer(long v, boolean high) {
        BigInteger number = BigInteger.valueOf(v);
        return made(plain(2, high && v < 0 ? number.add(TWO_64) : number, 0));
    }

    int real(long bits, boolean wide) {
        BigInteger modulus = wide ? TWO_64 : BigInteger.ONE.shiftLeft(32);
        return made(plain(wide ? 4 : 3, BigInteger.valueOf(bits).mod(modulus), 0));
    }

    int row(int kind) {
        if (kind != 5 && kind != 6 || kind == 5 && wrongCharacter(tape) >= 0) {
            throw new IllegalArgumentException();
        }
        return madeOfTape(new Node(kind));
    }

    private int madeOfTape(Node node) {
        node.bytes = tape;
        int v = made(node);
        tape = new byte[0];
        return v;
    }

    int extension(int type) {
        if (type < -128 || type > 127 || type == 0 || type == -1) {
            throw new IllegalArgumentException();
        }
        return madeOfTape(plain(9, BigInteger.ZERO, type));
    }

    int time(long seconds, int nanos) {
        if (nanos < 0 || nanos > 999999999) {
            throw new IllegalArgumentException();
        }
        return made(plain(10, BigInteger.valueOf(seconds), nanos));
    }

    int group(int kind) {
        if (kind != 7 && kind != 8) {
            throw new IllegalArgumentException();
        }
        return made(new Node(kind));
    }

    int add(int list, int v) {
        return come(7, at(list), at(v), null);
    }

    int put(int map, int key, int v) {
        return come(8, at(map), at(key), at(v)) / 2;
    }

    private int come(int kind, Node to, Node first, Node second) {
        if (to.kind != kind) {
            throw new IllegalArgumentException();
        }
        if (count(1) + (second == null ? 1 : 2) > 6000) {
            throw new UnsupportedOperationException();
        }
        to.parts.add(first);
        if (second != null) {
            to.parts.add(second);
        }
        return to.parts.size();
    }

    int about(int v, int what) {
        Node node = at(v);
        switch (what) {
            case 0: return node.kind;
            case 1: return node.kind == 8 ? node.parts.size() / 2 : node.parts.size() + node.bytes.length;
            case 2: return node.detail;
            case 3: return node.kind == 7 || node.kind == 8 || !canBePacked(node) ? 0 : packed(node).length;
            default: throw new IllegalArgumentException();
        }
    }

    long number(int v) {
        Node node = at(v);
        if (!List.of(2, 3, 4, 10).contains(node.kind)) {
            throw new IllegalArgumentException();
        }
        if (node.kind == 2 && node.number.compareTo(TWO_63) >= 0) {
            throw new ArithmeticException();
        }
        return node.number.longValue();
    }

    int part(int v, int i) {
        Node node = at(v);
        if (node.kind == 7 || node.kind == 8) {
            Node part = node.parts.get(i);
            for (int index = 0; index < values.size(); index++) {
                if (values.get(index) == part) {
                    return index;
                }
            }
        }
        if (i < 0 || i >= node.bytes.length) {
            throw new IndexOutOfBoundsException();
        }
        return node.bytes[i] & 255;
    }

    boolean same(int a, int b) {
        Node first = at(a);
        Node second = at(b);
        return Arrays.equals(packed(first), packed(second));
    }

    int find(int map, int key) {
        Node in = at(map);
        Node of = at(key);
        if (in.kind != 8) {
            throw new IllegalArgumentException();
        }
        byte[] due = packed(of);
        for (int i = 0; i < in.parts.size(); i += 2) {
            Node each = in.parts.get(i);
            if (canBePacked(each) && Arrays.equals(packed(each), due)) {
                return part(map, i + 1);
            }
        }
        return -1;
    }

    int count(int what) {
        switch (what) {
            case 0: return values.size();
            case 1: return values.stream().mapToInt(v -> v.parts.size()).sum();
            case 2: return values.stream().mapToInt(v -> v.bytes.length).sum();
            case 3: return tape.length;
            case 4: return out.length;
            default: throw new IllegalArgumentException();
        }
    }

    int clear() {
        int gone = values.size();
        values = new ArrayList<>();
        return gone;
    }
}
