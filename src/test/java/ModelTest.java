import java.io.ByteArrayOutputStream;
import java.util.ArrayDeque;
import java.util.Arrays;
import java.util.Deque;
import java.util.Random;

/** Runs of calls made by chance, always the same ones, on a PackedGraph and on the Model: they must answer alike. */
public final class ModelTest {
    private static final int RUNS = 1500;
    private static final int CALLS = 512;

    private interface Answer {
        Object get();
    }

    private final Random random;
    private final PackedGraph real = new PackedGraph();
    private final Model model = new Model();
    private final Deque<String> told = new ArrayDeque<>();
    private boolean isLost = false;
    private int calls = 0;

    private ModelTest(int seed) {
        random = new Random(seed);
    }

    public static void main(String[] args) {
        for (int seed = 0; seed < RUNS; seed++) {
            new ModelTest(seed).run(seed);
        }
        Check.close("ModelTest");
    }

    private void run(int seed) {
        while (calls < CALLS && !isLost) {
            step();
        }
        Check.equal("run " + seed + " is lost", isLost, false);
        if (isLost) {
            told.forEach(System.out::println);
        }
    }

    private static Object answer(Answer call) {
        try {
            return call.get();
        } catch (RuntimeException e) {
            // The library throws a subclass of it, the document names it.
            return e instanceof IndexOutOfBoundsException ? "IndexOutOfBoundsException" : e.getClass().getSimpleName();
        }
    }

    private void compare(String call, Answer got, Answer due) {
        if (isLost) {
            return;
        }
        Object first = answer(got);
        Object second = answer(due);
        calls++;
        told.addLast(call + " -> " + first + (first.equals(second) ? "" : ", due is " + second));
        if (told.size() > 40) {
            told.removeFirst();
        }
        isLost = !first.equals(second);
        for (int what = 0; what < 5 && !isLost; what++) {
            isLost = real.count(what) != model.count(what);
        }
    }

    private int value() {
        int size = model.count(0);
        int which = random.nextInt(20);
        return which == 0 ? size : which == 1 ? -1 : which < 6 ? Math.max(0, size - 1 - random.nextInt(8))
            : random.nextInt(size + 1);
    }

    private long number() {
        long near = 1L << random.nextInt(64);
        long number = random.nextInt(4) == 0 ? random.nextLong() : near + random.nextInt(3) - 1;
        return random.nextBoolean() ? number : -number;
    }

    private void step() {
        switch (random.nextInt(26)) {
            case 0: case 1: case 2: case 3: case 4: tapes(); break;
            case 5: case 6: case 7: case 8: packs(); break;
            case 9: case 10: makes(); break;
            case 11: case 12: case 13: case 14: case 15: adds(); break;
            case 16: case 17: asks(); break;
            case 18: case 19: case 20: compares(); break;
            case 21: rows(); break;
            case 22: tellsFault(); break;
            case 23: clears(); break;
            default: parts(); break;
        }
    }

    private void clears() {
        if (random.nextInt(12) == 0) {
            compare("clear()", real::clear, model::clear);
        }
    }

    private void tellsFault() {
        int what = random.nextInt(4) - 1;
        compare("fault(" + what + ")", () -> real.fault(what), () -> model.fault(what));
    }

    private void fill(byte[] bytes) {
        for (int i = 0; i < bytes.length; i += 20) {
            int[] n = Check.fiveNumbers(Arrays.copyOfRange(bytes, i, i + 20));
            compare("feed(" + n[0] + ", " + n[1] + ", " + n[2] + ", " + n[3] + ", " + n[4] + ")",
                () -> real.feed(n[0], n[1], n[2], n[3], n[4]), () -> model.feed(n[0], n[1], n[2], n[3], n[4]));
        }
        int fits = bytes.length + model.count(3) - (bytes.length + 19) / 20 * 20;
        int n = random.nextInt(60) == 0 ? fits + random.nextInt(60) - 40 : fits;
        compare("end(" + n + ")", () -> ended(() -> real.end(n)), () -> ended(() -> model.end(n)));
    }

    private static Object ended(Runnable end) {
        end.run();
        return "nothing";
    }

    private void tapes() {
        byte[] tape = new Tapes(random).next();
        fill(tape);
        for (int i = random.nextInt(4); i > 0; i--) {
            int from = random.nextInt(tape.length + 3) - 1;
            compare("skip(" + from + ")", () -> real.skip(from), () -> model.skip(from));
        }
        compare("unpack()", real::unpack, model::unpack);
        compare("fault(0)", () -> real.fault(0), () -> model.fault(0));
        compare("fault(1)", () -> real.fault(1), () -> model.fault(1));
        if (model.fault(0) == 0 && random.nextBoolean()) {
            packs();
        }
    }

    private void rows() {
        Tapes tapes = new Tapes(random);
        fill(random.nextInt(4) == 0 ? new byte[0] : random.nextBoolean() ? tapes.text() : tapes.next());
        if (random.nextBoolean()) {
            int kind = random.nextInt(8) == 0 ? random.nextInt(12) - 1 : 5 + random.nextInt(2);
            compare("row(" + kind + ")", () -> real.row(kind), () -> model.row(kind));
        } else {
            int type = random.nextInt(4) == 0 ? random.nextInt(5) - 2 : random.nextInt(264) - 132;
            compare("extension(" + type + ")", () -> real.extension(type), () -> model.extension(type));
        }
    }

    private void packs() {
        int v = value();
        compare("pack(" + v + ")", () -> real.pack(v), () -> model.pack(v));
        int out = model.count(4);
        for (int i = 0; i < out && !isLost; i++) {
            if (real.shown(i) != model.shown(i)) {
                told.addLast("shown(" + i + ") -> " + real.shown(i) + ", due is " + model.shown(i));
                isLost = true;
            }
        }
        int i = random.nextInt(out + 2) - 1;
        compare("shown(" + i + ")", () -> real.shown(i), () -> model.shown(i));
    }

    private void makes() {
        boolean is = random.nextBoolean();
        long n = number();
        switch (random.nextInt(8)) {
            case 0: compare("nil()", real::nil, model::nil); break;
            case 1: compare("truth(" + is + ")", () -> real.truth(is), () -> model.truth(is)); break;
            case 2: case 3:
                compare("integer(" + n + ", " + is + ")", () -> real.integer(n, is), () -> model.integer(n, is));
                break;
            case 4: compare("real(" + n + ", " + is + ")", () -> real.real(n, is), () -> model.real(n, is)); break;
            case 5:
                int nanos = is ? random.nextInt(3) * 499999999 + random.nextInt(4) - 1 : 0;
                compare("time(" + n + ", " + nanos + ")", () -> real.time(n, nanos), () -> model.time(n, nanos));
                break;
            default:
                int kind = random.nextInt(10) == 0 ? random.nextInt(12) - 1 : is ? 7 : 8;
                compare("group(" + kind + ")", () -> real.group(kind), () -> model.group(kind));
                break;
        }
    }

    /** A list or map, if a few tries find one. */
    private int group(int kind) {
        for (int i = 0; i < 30; i++) {
            int v = value();
            if (v >= 0 && v < model.count(0) && model.about(v, 0) == kind) {
                return v;
            }
        }
        return value();
    }

    private void adds() {
        int v = random.nextInt(3) == 0 ? group(7 + random.nextInt(2)) : value();
        if (random.nextBoolean()) {
            int list = group(7);
            compare("add(" + list + ", " + v + ")", () -> real.add(list, v), () -> model.add(list, v));
        } else {
            int map = group(8);
            int key = value();
            compare("put(" + map + ", " + key + ", " + v + ")",
                () -> real.put(map, key, v), () -> model.put(map, key, v));
        }
    }

    private void asks() {
        int v = value();
        int what = random.nextInt(6) - 1;
        compare("about(" + v + ", " + what + ")", () -> real.about(v, what), () -> model.about(v, what));
        compare("number(" + v + ")", () -> real.number(v), () -> model.number(v));
        compare("count(" + what + ")", () -> real.count(what), () -> model.count(what));
    }

    private void parts() {
        int v = random.nextBoolean() ? group(7 + random.nextInt(2)) : value();
        int length = v >= 0 && v < model.count(0) ? 2 * model.about(v, 1) : 0;
        int i = random.nextInt(length + 2) - 1;
        compare("part(" + v + ", " + i + ")", () -> real.part(v, i), () -> model.part(v, i));
    }

    private void compares() {
        int a = value();
        int b = random.nextInt(6) == 0 ? a : value();
        if (random.nextBoolean()) {
            compare("same(" + a + ", " + b + ")", () -> real.same(a, b), () -> model.same(a, b));
        } else {
            int map = group(8);
            compare("find(" + map + ", " + b + ")", () -> real.find(map, b), () -> model.find(map, b));
        }
    }

    /** Tapes made by chance: packed values in any form, some of them spoilt. */
    private static final class Tapes {
        private final Random random;
        private final ByteArrayOutputStream to = new ByteArrayOutputStream();
        private int groups = 0;
        private int left;

        Tapes(Random random) {
            this.random = random;
            left = random.nextInt(5) == 0 ? 200 : 12;
        }

        byte[] next() {
            int deep = random.nextInt(12) == 0 ? 20 + random.nextInt(6) : 0;
            for (int i = 0; i < deep; i++) {
                length(7, 1);
                groups++;
            }
            value(deep);
            byte[] tape = to.toByteArray();
            int spoilt = random.nextInt(3) == 0 ? 1 + random.nextInt(2) : 0;
            for (int i = 0; i < spoilt && tape.length > 0; i++) {
                tape = spoil(tape);
            }
            return tape;
        }

        private byte[] spoil(byte[] tape) {
            int at = random.nextInt(tape.length);
            switch (random.nextInt(4)) {
                case 0: return Arrays.copyOf(tape, at);
                case 1: return Arrays.copyOf(tape, tape.length + 1);
                case 2: tape[at] ^= 1 << random.nextInt(8); return tape;
                default: tape[at] = (byte) random.nextInt(256); return tape;
            }
        }

        private void write(int lead, long number, int n) {
            to.write(lead);
            for (int i = n - 1; i >= 0; i--) {
                to.write((int) (number >> 8 * i));
            }
        }

        /** The head of a list, map, text or bytes of n, in any of the forms that have it. */
        private void length(int kind, int n) {
            int fixed = kind == 5 ? 0xa0 : kind == 7 ? 0x90 : 0x80;
            if (kind != 6 && n < (kind == 5 ? 32 : 16) && random.nextInt(4) != 0) {
                to.write(fixed + n);
            } else if (kind >= 7) {
                boolean isWide = random.nextBoolean();
                write((kind == 7 ? 0xdc : 0xde) + (isWide ? 1 : 0), n, isWide ? 4 : 2);
            } else {
                int step = n < 256 ? random.nextInt(3) : 1 + random.nextInt(2);
                write((kind == 5 ? 0xd9 : 0xc4) + step, n, 1 << step);
            }
        }

        private void value(int open) {
            left--;
            int kind = random.nextInt(left > 0 && open < 25 ? 17 : 11);
            switch (kind) {
                case 0: to.write(0xc0); break;
                case 1: to.write(0xc2 + random.nextInt(2)); break;
                case 2: case 3: integer(); break;
                case 4: write(0xca, random.nextLong(), 4); break;
                case 5: write(0xcb, random.nextLong(), 8); break;
                case 6: row(5, text()); break;
                case 7: row(6, bytes(random.nextInt(40))); break;
                case 8: extension(random.nextInt(256), bytes(random.nextInt(20))); break;
                case 9: time(); break;
                case 10: case 11: reference(); break;
                default: group(7 + kind % 2, open); break;
            }
        }

        private void group(int kind, int open) {
            int n = random.nextInt(8) == 0 ? random.nextInt(30) : random.nextInt(4);
            length(kind, random.nextInt(200) == 0 ? 2999 + random.nextInt(3) * (kind == 7 ? 1501 : 1) : n);
            groups++;
            for (int i = 0; i < (kind == 7 ? n : 2 * n); i++) {
                value(open + 1);
            }
        }

        private void integer() {
            int form = random.nextInt(9);
            if (form == 8) {
                to.write(random.nextInt(160) - 32);
            } else {
                int width = 1 << form % 4;
                int shift = random.nextInt(64);
                long number = random.nextLong() >>> shift;
                write(0xcc + form, random.nextInt(4) == 0 ? -number : number, width);
            }
        }

        private void row(int kind, byte[] bytes) {
            length(kind, bytes.length);
            to.writeBytes(bytes);
        }

        private byte[] bytes(int n) {
            byte[] bytes = new byte[n];
            random.nextBytes(bytes);
            return bytes;
        }

        byte[] text() {
            StringBuilder text = new StringBuilder();
            int[] most = {128, 2048, 65536, 1114112};
            int n = random.nextInt(6) == 0 ? random.nextInt(90) : random.nextInt(6);
            for (int i = 0; i < n; i++) {
                int character = random.nextInt(most[random.nextInt(4)]);
                text.appendCodePoint(character >= 55296 && character < 57344 ? 65 : character);
            }
            byte[] bytes = text.toString().getBytes(java.nio.charset.StandardCharsets.UTF_8);
            if (bytes.length > 0 && random.nextInt(8) == 0) {
                bytes[random.nextInt(bytes.length)] = (byte) (128 + random.nextInt(128));
            }
            return bytes;
        }

        private void extension(int type, byte[] bytes) {
            int n = bytes.length;
            if (n > 0 && n <= 16 && Integer.bitCount(n) == 1 && random.nextInt(3) != 0) {
                to.write(0xd4 + Integer.numberOfTrailingZeros(n));
            } else {
                int step = random.nextInt(3);
                write(0xc7 + step, n, 1 << step);
            }
            to.write(type);
            to.writeBytes(bytes);
        }

        private void time() {
            byte[] bytes = bytes(random.nextInt(12) == 0 ? random.nextInt(14) : 4 * (1 + random.nextInt(3)));
            if (bytes.length > 0) {
                bytes[0] &= random.nextInt(3) == 0 ? -1 : bytes.length == 8 ? 0x7f : 0x1f;
            }
            for (int i = 0; i < bytes.length && random.nextInt(3) == 0; i++) {
                bytes[i] = 0;
            }
            extension(-1, bytes);
        }

        private void reference() {
            int n = random.nextInt(Math.max(1, groups)) + (random.nextInt(12) == 0 ? 1 : 0);
            Tapes number = new Tapes(random);
            int step = random.nextInt(4);
            if (random.nextBoolean() && n < 128) {
                number.to.write(n);
            } else {
                number.write((random.nextBoolean() ? 0xcc : 0xd0) + step, n, 1 << step);
            }
            extension(0, number.to.toByteArray());
        }
    }
}
