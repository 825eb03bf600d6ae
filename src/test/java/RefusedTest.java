/** What each call throws, and from where on; which exception counts first; and that nothing changes then. */
public final class RefusedTest {
    private static final Class<IndexOutOfBoundsException> INDEX = IndexOutOfBoundsException.class;
    private static final Class<IllegalArgumentException> ARGUMENT = IllegalArgumentException.class;
    private static final Class<UnsupportedOperationException> UNSUPPORTED = UnsupportedOperationException.class;
    private static final Class<ArithmeticException> ARITHMETIC = ArithmeticException.class;

    // The values of rich(): 0 is the list that holds the others up to 17; a list from TOO_DEEP on holds the next one.
    private static final int[] KINDS = {7, 0, 1, 2, 2, 3, 4, 5, 6, 9, 7, 0, 10, 8, 2, 8, 0, 0};
    private static final int NIL = 1;
    private static final int TRUTH = 2;
    private static final int INTEGER = 3;
    private static final int HIGH = 4;
    private static final int FLOAT = 5;
    private static final int DOUBLE = 6;
    private static final int TEXT = 7;
    private static final int BYTES = 8;
    private static final int EXTENSION = 9;
    private static final int LIST = 10;
    private static final int TIME = 12;
    private static final int MAP = 13;
    private static final int INNER_MAP = 15;
    private static final int TOO_DEEP = 18;
    private static final int DEEP = 20;
    private static final int SIZE = 44;
    private static final int[] NO_VALUES = {-1, SIZE, SIZE + 1, Integer.MIN_VALUE, Integer.MAX_VALUE};

    public static void main(String[] args) {
        newObject();
        feedAndEnd();
        faultAndCount();
        skipAndShown();
        pack();
        rowAndExtension();
        timeAndGroup();
        add();
        put();
        about();
        number();
        part();
        partsThatGrow();
        same();
        find();
        findTheFirst();
        firstException();
        firstExceptionOfFull();
        tellingChangesNothing();
        clear();
        Check.close("RefusedTest");
    }

    /** A value of each kind, lists in 25 others, three bytes on the tape, a text in the out, a fault at place 1. */
    private static PackedGraph rich() {
        PackedGraph x = new PackedGraph();
        Check.unpack(x, "9c c0 c3 05 cf8000000000000000 ca80000001 cb8000000000000001 a2c3a9 c40180 d5800102"
            + " 92c0d40001 c70cff0000000affffffffffffffff 810581c0c0");
        for (int v = TOO_DEEP; v < SIZE; v++) {
            x.group(7);
        }
        for (int v = TOO_DEEP; v < SIZE - 1; v++) {
            x.add(v, v + 1);
        }
        x.pack(TEXT);
        Check.unpack(x, "91c1");
        Check.feed(x, "41c3ff");
        return x;
    }

    /** As rich(), but no value more can be made. */
    private static PackedGraph full() {
        PackedGraph x = rich();
        x.end(0);
        int more = 3000 - x.count(0) - 1;
        Check.unpack(x, String.format("dc%04x", more) + Check.repeat("c0", more));
        Check.unpack(x, "91c1");
        Check.feed(x, "41c3ff");
        return x;
    }

    private static void answers(String what, Twin.Call call, Object due) {
        Twin.answers(what, RefusedTest::rich, call, due);
    }

    private static void refuses(String what, Twin.Call call, Class<? extends Exception> due) {
        Twin.refuses(what, RefusedTest::rich, call, due);
    }

    private static Object ended(PackedGraph x, int n) {
        x.end(n);
        return x.count(3);
    }

    private static void newObject() {
        Twin.Start start = PackedGraph::new;
        for (int what = 0; what < 5; what++) {
            int of = what;
            Twin.answers("new: count(" + what + ")", start, x -> x.count(of), 0);
        }
        Twin.answers("new: fault(0)", start, x -> x.fault(0), 0);
        Twin.answers("new: fault(1)", start, x -> x.fault(1), 0);
        Twin.answers("new: clear()", start, x -> x.clear(), 0);
        Twin.answers("new: end(0)", start, x -> ended(x, 0), 0);
        Twin.answers("new: feed()", start, x -> x.feed(0, 0, 0, 0, 0), 20);
        Twin.answers("new: unpack()", start, x -> x.unpack(), -1);
        Twin.answers("new: row(5)", start, x -> x.row(5), 0);
        Twin.answers("new: row(6)", start, x -> x.row(6), 0);
        Twin.answers("new: extension(5)", start, x -> x.extension(5), 0);
        Twin.refuses("new: end(1)", start, x -> ended(x, 1), ARGUMENT);
        Twin.refuses("new: skip(0)", start, x -> x.skip(0), INDEX);
        Twin.refuses("new: pack(0)", start, x -> x.pack(0), INDEX);
        Twin.refuses("new: shown(0)", start, x -> x.shown(0), INDEX);
        Twin.refuses("new: add(0, 0)", start, x -> x.add(0, 0), INDEX);
        Twin.refuses("new: put(0, 0, 0)", start, x -> x.put(0, 0, 0), INDEX);
        Twin.refuses("new: about(0, 0)", start, x -> x.about(0, 0), INDEX);
        Twin.refuses("new: number(0)", start, x -> x.number(0), INDEX);
        Twin.refuses("new: part(0, 0)", start, x -> x.part(0, 0), INDEX);
        Twin.refuses("new: same(0, 0)", start, x -> x.same(0, 0), INDEX);
        Twin.refuses("new: find(0, 0)", start, x -> x.find(0, 0), INDEX);
        Check.equal("NONE", PackedGraph.NONE, -1);
        PackedGraph first = new PackedGraph();
        first.nil();
        Check.equal("another object has no part in it", new PackedGraph().count(0), 0);
    }

    private static void feedAndEnd() {
        answers("feed", x -> x.feed(1, 2, 3, 4, 5), 23);
        for (int n = 0; n <= 3; n++) {
            int kept = n;
            answers("end(" + n + ")", x -> ended(x, kept), n);
        }
        for (int n : new int[] {-1, 4, 5, Integer.MIN_VALUE, Integer.MAX_VALUE}) {
            refuses("end(" + n + ")", x -> ended(x, n), ARGUMENT);
        }
        PackedGraph x = new PackedGraph();
        x.feed(0x80ff7f01, 0xfedcba98, 0x00000000, 0xffffffff, 0x01020304);
        x.end(18);
        x.feed(0x05060708, Integer.MIN_VALUE, Integer.MAX_VALUE, -1, 1);
        int v = x.row(6);
        String all = "80ff7f01fedcba9800000000ffffffff0102" + "05060708800000007fffffffffffffff00000001";
        Check.equal("how many bytes", x.about(v, 1), 38);
        for (int i = 0; i < 38; i++) {
            Check.equal("byte " + i, x.part(v, i), Integer.parseInt(all.substring(2 * i, 2 * i + 2), 16));
        }
        Check.refused("no byte behind", INDEX, () -> x.part(v, 38));
    }

    private static void faultAndCount() {
        answers("fault(0)", x -> x.fault(0), 2);
        answers("fault(1)", x -> x.fault(1), 1);
        for (int what : new int[] {-1, 2, 3, Integer.MIN_VALUE, Integer.MAX_VALUE}) {
            refuses("fault(" + what + ")", x -> x.fault(what), INDEX);
        }
        int[] due = {SIZE, 12 + 2 + 2 + 2 + 25, 5, 3, 3};
        for (int what = 0; what < due.length; what++) {
            int of = what;
            answers("count(" + what + ")", x -> x.count(of), due[what]);
        }
        for (int what : new int[] {-1, 5, 6, Integer.MIN_VALUE, Integer.MAX_VALUE}) {
            refuses("count(" + what + ")", x -> x.count(what), ARGUMENT);
        }
    }

    private static void skipAndShown() {
        answers("skip(0)", x -> x.skip(0), 1);
        answers("skip(1)", x -> x.skip(1), 2);
        answers("skip(2)", x -> x.skip(2), 3);
        for (int from : new int[] {-1, 3, 4, Integer.MIN_VALUE, Integer.MAX_VALUE}) {
            refuses("skip(" + from + ")", x -> x.skip(from), INDEX);
        }
        answers("shown(0)", x -> x.shown(0), 0xa2);
        answers("shown(1)", x -> x.shown(1), 0xc3);
        answers("shown(2)", x -> x.shown(2), 0xa9);
        for (int i : new int[] {-1, 3, 4, Integer.MIN_VALUE, Integer.MAX_VALUE}) {
            refuses("shown(" + i + ")", x -> x.shown(i), INDEX);
        }
    }

    private static void pack() {
        answers("pack of the second", x -> x.pack(NIL), 1);
        answers("pack of the last", x -> x.pack(SIZE - 1), 1);
        for (int v : NO_VALUES) {
            refuses("pack(" + v + ")", x -> x.pack(v), INDEX);
        }
        answers("pack of 24 open ones", x -> x.pack(DEEP), 24);
        Twin.refusesToPack("pack of 25 open ones", RefusedTest::rich, DEEP - 1);
        Twin.refusesToPack("pack of 26 open ones", RefusedTest::rich, TOO_DEEP);
        PackedGraph x = rich();
        x.pack(DEEP);
        Check.refused("pack of 25 open ones", UNSUPPORTED, () -> x.pack(DEEP - 1));
        Check.equal("the out is empty", x.count(4), 0);
        Check.refused("pack of no value then", INDEX, () -> x.pack(SIZE));
        Check.equal("the out is empty still", x.count(4), 0);
        Check.equal("what was within is packed whole", Check.packed(x, SIZE - 2), "9190");
    }

    private static void rowAndExtension() {
        for (int kind : new int[] {-1, 0, 4, 7, 8, 9, 10, 11, Integer.MIN_VALUE, Integer.MAX_VALUE}) {
            refuses("row(" + kind + ")", x -> x.row(kind), ARGUMENT);
        }
        refuses("row(5) of no text", x -> x.row(5), ARGUMENT);
        answers("row(6) of no text", x -> x.row(6), SIZE);
        for (int type : new int[] {-129, -1, 0, 128}) {
            refuses("extension(" + type + ")", x -> x.extension(type), ARGUMENT);
        }
        for (int type : new int[] {-128, -2, 1, 127}) {
            answers("extension(" + type + ")", x -> x.extension(type), SIZE);
        }
        PackedGraph x = rich();
        x.end(1);
        Check.equal("row(5) of a text", x.row(5), SIZE);
        Check.equal("the tape is empty", x.count(3), 0);
        Check.equal("row(5) of nothing", x.row(5), SIZE + 1);
        Check.equal("row(6) of nothing", x.row(6), SIZE + 2);
        Check.equal("extension(1) of nothing", x.extension(1), SIZE + 3);
        Check.equal("bytes", x.count(2), 6);
    }

    private static void timeAndGroup() {
        for (int nanos : new int[] {-1, 1000000000}) {
            refuses("time(0, " + nanos + ")", x -> x.time(0, nanos), ARGUMENT);
        }
        answers("time(0, 0)", x -> x.time(0, 0), SIZE);
        answers("time(0, 999999999)", x -> x.time(0, 999999999), SIZE);
        for (int kind : new int[] {-1, 0, 1, 5, 6, 9, 10, 11, Integer.MIN_VALUE, Integer.MAX_VALUE}) {
            refuses("group(" + kind + ")", x -> x.group(kind), ARGUMENT);
        }
        answers("group(7)", x -> x.group(7), SIZE);
        answers("group(8)", x -> x.group(8), SIZE);
    }

    private static int kind(int v) {
        return v < KINDS.length ? KINDS[v] : 7;
    }

    private static int length(int v) {
        int[] lengths = {12, 0, 0, 0, 0, 0, 0, 2, 1, 2, 2, 0, 0, 1, 0, 1, 0, 0};
        return v < lengths.length ? lengths[v] : v < SIZE - 1 ? 1 : 0;
    }

    private static void add() {
        answers("add of the first", x -> x.add(LIST, 0), 3);
        answers("add of the last", x -> x.add(LIST, SIZE - 1), 3);
        answers("add to the last", x -> x.add(SIZE - 1, SIZE - 1), 1);
        for (int v : NO_VALUES) {
            refuses("add(" + v + ", 1)", x -> x.add(v, 1), INDEX);
            refuses("add(list, " + v + ")", x -> x.add(LIST, v), INDEX);
            refuses("add(no list, " + v + ")", x -> x.add(NIL, v), INDEX);
        }
        for (int v = 0; v < SIZE; v++) {
            int to = v;
            if (kind(v) == 7) {
                answers("add to " + v, x -> x.add(to, NIL), length(v) + 1);
            } else {
                refuses("add to " + v, x -> x.add(to, NIL), ARGUMENT);
            }
        }
        PackedGraph x = rich();
        x.add(LIST, TEXT);
        Check.equal("what was added is the last", x.part(LIST, 2), TEXT);
        Check.equal("the first stays", x.part(LIST, 0), LIST + 1);
        Check.equal("count(1)", x.count(1), 44);
        Check.equal("no value is made", x.count(0), SIZE);
    }

    private static void put() {
        answers("put", x -> x.put(MAP, 0, SIZE - 1), 2);
        answers("put itself", x -> x.put(MAP, MAP, MAP), 2);
        answers("put the same key", x -> x.put(MAP, MAP + 1, NIL), 2);
        for (int v : NO_VALUES) {
            refuses("put(" + v + ", 1, 1)", x -> x.put(v, 1, 1), INDEX);
            refuses("put(map, " + v + ", 1)", x -> x.put(MAP, v, 1), INDEX);
            refuses("put(map, 1, " + v + ")", x -> x.put(MAP, 1, v), INDEX);
            refuses("put(no map, " + v + ", 1)", x -> x.put(LIST, v, 1), INDEX);
            refuses("put(no map, 1, " + v + ")", x -> x.put(LIST, 1, v), INDEX);
        }
        for (int v = 0; v < SIZE; v++) {
            int to = v;
            if (kind(v) == 8) {
                answers("put to " + v, x -> x.put(to, NIL, NIL), length(v) + 1);
            } else {
                refuses("put to " + v, x -> x.put(to, NIL, NIL), ARGUMENT);
            }
        }
        PackedGraph x = rich();
        x.put(MAP, TEXT, BYTES);
        Check.equal("the key that was put", x.part(MAP, 2), TEXT);
        Check.equal("its value", x.part(MAP, 3), BYTES);
        Check.equal("count(1)", x.count(1), 45);
    }

    private static void about() {
        int[] details = {0, 0, 1, 0, 0, 0, 0, 0, 0, -128, 0, 0, 10, 0, 0, 0, 0, 0};
        int[] packed = {0, 1, 1, 1, 9, 5, 9, 3, 3, 4, 0, 1, 15, 0, 1, 0, 1, 1};
        PackedGraph x = rich();
        for (int v = 0; v < SIZE; v++) {
            Check.equal("about(" + v + ", 0)", x.about(v, 0), kind(v));
            Check.equal("about(" + v + ", 1)", x.about(v, 1), length(v));
            Check.equal("about(" + v + ", 2)", x.about(v, 2), v < details.length ? details[v] : 0);
            Check.equal("about(" + v + ", 3)", x.about(v, 3), v < packed.length ? packed[v] : 0);
            for (int what : new int[] {-1, 4}) {
                int of = v;
                Check.refused("about(" + v + ", " + what + ")", ARGUMENT, () -> x.about(of, what));
            }
        }
        Check.equal("about() changes nothing", Twin.state(x, true), Twin.state(rich(), true));
        for (int what : new int[] {-1, 4, 5, Integer.MIN_VALUE, Integer.MAX_VALUE}) {
            refuses("about(0, " + what + ")", y -> y.about(0, what), ARGUMENT);
        }
        for (int v : NO_VALUES) {
            for (int what = -1; what <= 4; what++) {
                int of = what;
                refuses("about(" + v + ", " + what + ")", y -> y.about(v, of), INDEX);
            }
        }
    }

    private static void number() {
        answers("number of an integer", x -> x.number(INTEGER), 5);
        answers("number of a float", x -> x.number(FLOAT), 0x80000001L);
        answers("number of a double", x -> x.number(DOUBLE), 0x8000000000000001L);
        answers("number of a time", x -> x.number(TIME), -1);
        refuses("number of 2^63", x -> x.number(HIGH), ARITHMETIC);
        for (int v = 0; v < SIZE; v++) {
            int of = v;
            if (kind(v) != 2 && kind(v) != 3 && kind(v) != 4 && kind(v) != 10) {
                refuses("number(" + v + ")", x -> x.number(of), ARGUMENT);
            }
        }
        for (int v : NO_VALUES) {
            refuses("number(" + v + ")", x -> x.number(v), INDEX);
        }
    }

    private static void part() {
        int[][] due = {{1, 2, 3, 4, 5, 6, 7, 8, 9, 10, 12, 13}, {}, {}, {}, {}, {}, {}, {0xc3, 0xa9}, {0x80}, {1, 2},
            {11, 10}, {}, {}, {14, 15}, {}, {16, 17}, {}, {}};
        for (int v = 0; v < due.length; v++) {
            int of = v;
            int n = due[v].length;
            for (int i = 0; i < n; i++) {
                int at = i;
                answers("part(" + v + ", " + i + ")", x -> x.part(of, at), due[v][i]);
            }
            for (int i : new int[] {-1, n, n + 1, 2 * n + 2, Integer.MIN_VALUE, Integer.MAX_VALUE}) {
                refuses("part(" + v + ", " + i + ")", x -> x.part(of, i), INDEX);
            }
        }
        answers("part of the last but one", x -> x.part(SIZE - 2, 0), SIZE - 1);
        refuses("part of the last", x -> x.part(SIZE - 1, 0), INDEX);
        for (int v : NO_VALUES) {
            refuses("part(" + v + ", 0)", x -> x.part(v, 0), INDEX);
            refuses("part(" + v + ", -1)", x -> x.part(v, -1), INDEX);
        }
    }

    /** Rows of bytes and of values grow in steps: what is behind their end is never told. */
    private static void partsThatGrow() {
        PackedGraph x = new PackedGraph();
        int list = x.group(7);
        int map = x.group(8);
        for (int n = 0; n < 70; n++) {
            int end = n;
            Check.refused("part behind " + n, INDEX, () -> x.part(list, end));
            Check.refused("part behind " + n + " pairs", INDEX, () -> x.part(map, 2 * end));
            Check.equal("add", x.add(list, list), n + 1);
            Check.equal("put", x.put(map, list, map), n + 1);
            Check.equal("the last", x.part(list, n), list);
            Check.equal("the last key", x.part(map, 2 * n), list);
            Check.equal("the last value", x.part(map, 2 * n + 1), map);
        }
    }

    private static void same() {
        for (int a = 0; a < TOO_DEEP; a++) {
            for (int b = 0; b < TOO_DEEP; b++) {
                int first = a;
                int second = b;
                boolean areNils = kind(a) == 0 && kind(b) == 0;
                boolean areFives = kind(a) == 2 && kind(b) == 2 && a != HIGH && b != HIGH;
                answers("same(" + a + ", " + b + ")", x -> x.same(first, second),
                    a == b || areNils || areFives);
            }
        }
        for (int v : NO_VALUES) {
            refuses("same(" + v + ", 1)", x -> x.same(v, NIL), INDEX);
            refuses("same(1, " + v + ")", x -> x.same(NIL, v), INDEX);
            refuses("same(too deep, " + v + ")", x -> x.same(TOO_DEEP, v), INDEX);
            refuses("same(" + v + ", too deep)", x -> x.same(v, TOO_DEEP), INDEX);
        }
        answers("same(deep, deep)", x -> x.same(DEEP, DEEP), true);
        answers("same(deep, deeper)", x -> x.same(DEEP, DEEP + 1), false);
        refuses("same(too deep, deep)", x -> x.same(DEEP - 1, DEEP), UNSUPPORTED);
        refuses("same(deep, too deep)", x -> x.same(DEEP, DEEP - 1), UNSUPPORTED);
        refuses("same(too deep, too deep)", x -> x.same(DEEP - 1, DEEP - 1), UNSUPPORTED);
    }

    private static void find() {
        answers("find of the key", x -> x.find(MAP, MAP + 1), INNER_MAP);
        answers("find of one the same", x -> x.find(MAP, INTEGER), INNER_MAP);
        answers("find of another", x -> x.find(MAP, HIGH), PackedGraph.NONE);
        answers("find of a value", x -> x.find(MAP, INNER_MAP), PackedGraph.NONE);
        answers("find in the inner map", x -> x.find(INNER_MAP, NIL), INNER_MAP + 2);
        answers("find of what is deep", x -> x.find(MAP, DEEP), PackedGraph.NONE);
        refuses("find of what is too deep", x -> x.find(MAP, DEEP - 1), UNSUPPORTED);
        for (int v : NO_VALUES) {
            refuses("find(" + v + ", 1)", x -> x.find(v, NIL), INDEX);
            refuses("find(map, " + v + ")", x -> x.find(MAP, v), INDEX);
            refuses("find(no map, " + v + ")", x -> x.find(LIST, v), INDEX);
            refuses("find(" + v + ", too deep)", x -> x.find(v, TOO_DEEP), INDEX);
        }
        for (int v = 0; v < SIZE; v++) {
            int in = v;
            if (kind(v) != 8) {
                refuses("find in " + v, x -> x.find(in, NIL), ARGUMENT);
                refuses("find of what is too deep in " + v, x -> x.find(in, TOO_DEEP), ARGUMENT);
            }
        }
        PackedGraph x = rich();
        int empty = x.group(8);
        Check.equal("find in an empty map", x.find(empty, NIL), PackedGraph.NONE);
        Check.refused("find of what is too deep, in an empty map", UNSUPPORTED, () -> x.find(empty, TOO_DEEP));
    }

    /** Of keys that are the same the first counts; keys that are too deep, or longer, are gone over. */
    private static void findTheFirst() {
        PackedGraph x = rich();
        int map = x.group(8);
        int[] keys = {TOO_DEEP, DEEP, TEXT, LIST, NIL, NIL, LIST + 1, MAP, EXTENSION};
        for (int i = 0; i < keys.length; i++) {
            x.put(map, keys[i], i);
        }
        int[] due = {PackedGraph.NONE, 1, 2, 3, 4, 4, 4, 7, 8};
        for (int i = 1; i < keys.length; i++) {
            Check.equal("find of " + keys[i], x.find(map, keys[i]), due[i]);
        }
        Check.refused("find of the first", UNSUPPORTED, () -> x.find(map, keys[0]));
        Check.equal("find of none", x.find(map, TRUTH), PackedGraph.NONE);
        Check.equal("find of the last, read again", x.find(map, unpackedBeside(x, "d5800102")), 8);
        Check.equal("find of a beginning of it", x.find(map, unpackedBeside(x, "d48001")), PackedGraph.NONE);
        Check.equal("find of more than it", x.find(map, unpackedBeside(x, "c70380010200")), PackedGraph.NONE);
        Check.equal("the out stays", Check.out(x), "a2c3a9");
    }

    private static int unpackedBeside(PackedGraph x, String hex) {
        x.end(0);
        return Check.unpack(x, hex);
    }

    /** Of several that would be thrown, the one named first: no value, then another kind, then too many or too deep. */
    private static void firstException() {
        refuses("about: no value, no what", x -> x.about(SIZE, 4), INDEX);
        refuses("add: no value, no list", x -> x.add(NIL, SIZE), INDEX);
        refuses("put: no value, no map", x -> x.put(NIL, NIL, SIZE), INDEX);
        refuses("put: no key, no map", x -> x.put(NIL, SIZE, NIL), INDEX);
        refuses("same: no value, too deep", x -> x.same(TOO_DEEP, SIZE), INDEX);
        refuses("find: no value, no map", x -> x.find(NIL, SIZE), INDEX);
        refuses("find: no map, too deep", x -> x.find(NIL, TOO_DEEP), ARGUMENT);
        Twin.Start start = () -> {
            PackedGraph x = new PackedGraph();
            Check.unpack(x, "dc176e 90" + Check.repeat("d40001", 5997));
            x.nil();
            x.group(8);
            x.add(0, 2);
            x.add(0, 2);
            Check.feed(x, "ff");
            return x;
        };
        Twin.refuses("add: all values in lists", start, x -> x.add(1, 2), UNSUPPORTED);
        Twin.refuses("put: all values in lists", start, x -> x.put(3, 2, 2), UNSUPPORTED);
        Twin.refuses("add: no list, all values in lists", start, x -> x.add(2, 2), ARGUMENT);
        Twin.refuses("add: a map, all values in lists", start, x -> x.add(3, 2), ARGUMENT);
        Twin.refuses("put: a list, all values in lists", start, x -> x.put(0, 2, 2), ARGUMENT);
        Twin.refuses("add: no value, all values in lists", start, x -> x.add(0, 4), INDEX);
        Twin.refuses("put: no value, all values in lists", start, x -> x.put(3, 2, 4), INDEX);
    }

    private static void firstExceptionOfFull() {
        refusesFull("nil()", x -> x.nil(), UNSUPPORTED);
        refusesFull("row(6)", x -> x.row(6), UNSUPPORTED);
        refusesFull("row(4)", x -> x.row(4), ARGUMENT);
        refusesFull("row(7)", x -> x.row(7), ARGUMENT);
        refusesFull("row(5) of no text", x -> x.row(5), ARGUMENT);
        refusesFull("extension(1)", x -> x.extension(1), UNSUPPORTED);
        for (int type : new int[] {-129, -1, 0, 128}) {
            refusesFull("extension(" + type + ")", x -> x.extension(type), ARGUMENT);
        }
        refusesFull("time(0, 0)", x -> x.time(0, 0), UNSUPPORTED);
        refusesFull("time(0, 999999999)", x -> x.time(0, 999999999), UNSUPPORTED);
        refusesFull("time(0, -1)", x -> x.time(0, -1), ARGUMENT);
        refusesFull("time(0, 1000000000)", x -> x.time(0, 1000000000), ARGUMENT);
        refusesFull("group(6)", x -> x.group(6), ARGUMENT);
        refusesFull("group(7)", x -> x.group(7), UNSUPPORTED);
        refusesFull("group(8)", x -> x.group(8), UNSUPPORTED);
        refusesFull("group(9)", x -> x.group(9), ARGUMENT);
        Twin.answers("add makes no value", RefusedTest::full, x -> x.add(LIST, 2999), 3);
        Twin.answers("put makes no value", RefusedTest::full, x -> x.put(MAP, 2999, 2999), 2);
    }

    private static void refusesFull(String what, Twin.Call call, Class<? extends Exception> due) {
        Twin.refuses("with all values: " + what, RefusedTest::full, call, due);
    }

    /** No call that only tells changes anything, whatever it answers. */
    private static void tellingChangesNothing() {
        PackedGraph x = rich();
        x.same(0, LIST);
        x.same(MAP, MAP);
        x.find(MAP, INTEGER);
        x.find(MAP, NIL);
        x.skip(0);
        x.number(TIME);
        x.part(0, 0);
        x.shown(0);
        x.fault(0);
        x.count(0);
        Check.equal("telling changes nothing", Twin.state(x, true), Twin.state(rich(), true));
        PackedGraph y = rich();
        y.pack(LIST);
        y.pack(TEXT);
        Check.equal("pack() changes the out alone", Twin.state(y, true), Twin.state(rich(), true));
    }

    private static void clear() {
        answers("clear()", x -> x.clear(), SIZE);
        Twin.answers("clear() of all", RefusedTest::full, x -> x.clear(), 3000);
        PackedGraph x = rich();
        x.clear();
        int[] due = {0, 0, 0, 3, 3};
        for (int what = 0; what < due.length; what++) {
            Check.equal("count(" + what + ") after clear()", x.count(what), due[what]);
        }
        Check.equal("the out stays", Check.out(x), "a2c3a9");
        Check.equal("fault(0) stays", x.fault(0), 2);
        Check.equal("fault(1) stays", x.fault(1), 1);
        Check.refused("no value is left", INDEX, () -> x.about(0, 0));
        Check.refused("none to be packed", INDEX, () -> x.pack(0));
        Check.equal("the out stays still", Check.out(x), "a2c3a9");
        Check.equal("clear() again", x.clear(), 0);
        Check.equal("the next value is the first", x.row(6), 0);
        Check.equal("the tape stayed", x.part(0, 2), 0xff);
        Check.equal("one value", x.clear(), 1);
    }
}
