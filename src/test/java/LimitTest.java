import java.util.LinkedHashMap;
import java.util.Map;

/** How many there can be: of each, the last that is allowed and the first that is not. */
public final class LimitTest {
    private static final Class<IllegalArgumentException> ARGUMENT = IllegalArgumentException.class;
    private static final Class<UnsupportedOperationException> UNSUPPORTED = UnsupportedOperationException.class;

    private static final Map<String, Twin.Call> MAKERS = new LinkedHashMap<>();
    private static final String[] ONE_VALUE = {"c0", "c2", "c3", "00", "7f", "e0", "ff", "cc80", "d3ffffffffffffffff",
        "ca00000000", "cb0000000000000000", "a0", "a161", "d900", "c400", "c40161", "90", "dc0000", "dd00000000", "80",
        "de0000", "df00000000", "d405ff", "c70005", "d6ff00000000", "d7ff0000000000000000",
        "c70cff000000000000000000000000"};
    private static final String[] TIMES = {"d6ff00000001", "d7ff0000000000000001", "c70cff000000000000000000000001"};

    static {
        MAKERS.put("nil()", x -> x.nil());
        MAKERS.put("truth(false)", x -> x.truth(false));
        MAKERS.put("truth(true)", x -> x.truth(true));
        MAKERS.put("integer(5, false)", x -> x.integer(5, false));
        MAKERS.put("integer(-5, true)", x -> x.integer(-5, true));
        MAKERS.put("real(5, false)", x -> x.real(5, false));
        MAKERS.put("real(5, true)", x -> x.real(5, true));
        MAKERS.put("row(5)", x -> x.row(5));
        MAKERS.put("row(6)", x -> x.row(6));
        MAKERS.put("extension(5)", x -> x.extension(5));
        MAKERS.put("time(5, 5)", x -> x.time(5, 5));
        MAKERS.put("group(7)", x -> x.group(7));
        MAKERS.put("group(8)", x -> x.group(8));
    }

    public static void main(String[] args) {
        valuesMade();
        valuesRead();
        valuesAfterFaultAndClear();
        partsAdded();
        partsPut();
        partsRead();
        partsOfOneHead();
        partsOfManyHeads();
        partsAfterFaultAndClear();
        bytesMade();
        bytesRead();
        bytesAfterFaultAndClear();
        tapeBytes();
        outBytesOfOneValue();
        outBytesOfAList();
        outBytesOfOtherCalls();
        openOnesRead();
        openOnesPacked();
        openOnesOfOtherCalls();
        Check.close("LimitTest");
    }

    /** n values, a byte on the tape, a nil in the out, and a fault. */
    private static PackedGraph withValues(int n) {
        PackedGraph x = new PackedGraph();
        Check.unpack(x, String.format("dd%08x", n - 1) + Check.repeat("c0", n - 1));
        x.pack(n - 1);
        Check.unpack(x, "91c1");
        Check.feed(x, "61");
        return x;
    }

    /** So many values in lists: all are in list 0, and all are list 1. Values: 0 .. 4. */
    private static PackedGraph withParts(int n) {
        PackedGraph x = new PackedGraph();
        Check.unpack(x, String.format("dd%08x", n) + "90" + Check.repeat("d40001", n - 1));
        x.nil();
        x.group(7);
        x.group(8);
        x.pack(2);
        Check.unpack(x, "91c1");
        Check.feed(x, "61");
        return x;
    }

    /** So many bytes in values; one byte on the tape. Only an object past its 512th call can have so many. */
    private static PackedGraph withBytes(int n) {
        PackedGraph x = new PackedGraph();
        for (int left = n; left > 0; left -= 20000) {
            Check.feed(x, new byte[Math.min(left, 20000)]);
            x.row(6);
        }
        x.pack(x.nil());
        Check.unpack(x, "91c1");
        Check.feed(x, "61");
        return x;
    }

    private static void valuesMade() {
        for (Map.Entry<String, Twin.Call> maker : MAKERS.entrySet()) {
            String what = maker.getKey();
            Twin.answers(what + " is the first", PackedGraph::new, maker.getValue(), 0);
            Twin.answers(what + " is the 2999th", () -> withValues(2998), maker.getValue(), 2998);
            Twin.answers(what + " is the 3000th", () -> withValues(2999), maker.getValue(), 2999);
            Twin.refuses(what + " is the 3001st", () -> withValues(3000), maker.getValue(), UNSUPPORTED);
        }
    }

    private static void valuesRead() {
        for (String hex : ONE_VALUE) {
            Twin.reads("the 3000th read of " + hex, () -> empty(withValues(2999)), hex, 1);
            Twin.faults("the 3001st read of " + hex, () -> empty(withValues(3000)), hex, 7, 0);
            Twin.reads("the 3000th read within of " + hex, () -> empty(withValues(2998)), "91" + hex, 2);
            Twin.faults("the 3001st read within of " + hex, () -> empty(withValues(2999)), "91" + hex, 7, 1);
            Twin.faults("the 3001st read with another of " + hex, () -> empty(withValues(3000)), "91" + hex, 7, 0);
        }
        Twin.reads("3000 of one tape", PackedGraph::new, "dc0bb7" + Check.repeat("c0", 2999), 3000);
        Twin.faults("3001 of one tape", PackedGraph::new, "dc0bb8" + Check.repeat("c0", 3000), 7, 3002);
        Twin.reads("references are none", () -> empty(withValues(2999)), "93 d40000 d40000 d40000", 1);
        Twin.reads("one before a reference", () -> empty(withValues(2998)), "92 90 d40001", 2);
        Twin.faults("one behind a reference", () -> empty(withValues(2999)), "92 d40000 c0", 7, 4);
    }

    private static PackedGraph empty(PackedGraph x) {
        x.end(0);
        return x;
    }

    private static void valuesAfterFaultAndClear() {
        PackedGraph x = empty(withValues(2997));
        Check.equal("a fault behind three", Check.unpack(x, "93 c0 c0 c1"), PackedGraph.NONE);
        Check.equal("three still have room", Check.unpack(x, "92 c0 c0"), 2997);
        Check.equal("values", x.count(0), 3000);
        Check.equal("clear()", x.clear(), 3000);
        Check.equal("the first again", x.nil(), 0);
        Check.equal("2999 more", Check.unpack(x, "dc0bb6" + Check.repeat("c0", 2998)), 1);
        Check.refused("the 3001st after clear()", UNSUPPORTED, () -> x.nil());
    }

    private static void partsAdded() {
        Twin.answers("add: the 5999th", () -> withParts(5998), x -> x.add(3, 2), 1);
        Twin.answers("add: the 6000th", () -> withParts(5999), x -> x.add(3, 2), 1);
        Twin.refuses("add: the 6001st", () -> withParts(6000), x -> x.add(3, 2), UNSUPPORTED);
        Twin.answers("add: the 6000th in one", () -> withParts(5999), x -> x.add(0, 2), 6000);
        Twin.refuses("add: the 6001st in one", () -> withParts(6000), x -> x.add(0, 0), UNSUPPORTED);
    }

    private static void partsPut() {
        Twin.answers("put: 5998 before", () -> withParts(5998), x -> x.put(4, 2, 2), 1);
        Twin.refuses("put: 5999 before", () -> withParts(5999), x -> x.put(4, 2, 2), UNSUPPORTED);
        Twin.refuses("put: 6000 before", () -> withParts(6000), x -> x.put(4, 2, 2), UNSUPPORTED);
        PackedGraph x = withParts(5998);
        Check.equal("the last pair", x.put(4, 2, 3), 1);
        Check.equal("its key", x.part(4, 0), 2);
        Check.equal("its value", x.part(4, 1), 3);
        Check.equal("count(1)", x.count(1), 6000);
        Check.refused("add behind it", UNSUPPORTED, () -> x.add(3, 2));
    }

    private static void partsRead() {
        Twin.reads("no value at 6000", () -> empty(withParts(6000)), "90", 1);
        Twin.reads("no pair at 6000", () -> empty(withParts(6000)), "80", 1);
        Twin.reads("no list at 6000", () -> empty(withParts(6000)), "a161", 1);
        Twin.reads("one value at 5999", () -> empty(withParts(5999)), "91c0", 2);
        Twin.faults("one value at 6000", () -> empty(withParts(6000)), "91c0", 7, 0);
        Twin.reads("a reference at 5999", () -> empty(withParts(5999)), "91d40000", 1);
        Twin.faults("a reference at 6000", () -> empty(withParts(6000)), "91d40000", 7, 0);
        Twin.reads("one pair at 5998", () -> empty(withParts(5998)), "81c0c0", 3);
        Twin.faults("one pair at 5999", () -> empty(withParts(5999)), "81c0c0", 7, 0);
        Twin.reads("a list in a list at 5998", () -> empty(withParts(5998)), "9191c0", 3);
        Twin.faults("a list in a list at 5999", () -> empty(withParts(5999)), "9191c0", 7, 1);
        Twin.reads("fifteen at 5985", () -> empty(withParts(5985)), "9f" + Check.repeat("c0", 15), 16);
        Twin.faults("fifteen at 5986", () -> empty(withParts(5986)), "9f" + Check.repeat("c0", 15), 7, 0);
        Twin.reads("fifteen pairs at 5970", () -> empty(withParts(5970)), "8f" + Check.repeat("c0", 30), 31);
        Twin.faults("fifteen pairs at 5971", () -> empty(withParts(5971)), "8f" + Check.repeat("c0", 30), 7, 0);
        Twin.reads("6000 of one tape", PackedGraph::new, "dc1770 90" + Check.repeat("d40001", 5999), 2);
        Twin.reads("3000 pairs of one tape", PackedGraph::new, "de0bb8 90" + Check.repeat("d40001", 5999), 2);
        Twin.faults("6001 of one tape", PackedGraph::new, "dc1771 90" + Check.repeat("d40001", 6000), 7, 0);
        Twin.faults("3001 pairs of one tape", PackedGraph::new, "de0bb9 90" + Check.repeat("d40001", 6001), 7, 0);
    }

    /** n is looked at as soon as it is known: with n small enough the first missing value is the fault. */
    private static void partsOfOneHead() {
        Twin.faults("a list said of 6000", PackedGraph::new, "dc1770", 1, 3);
        Twin.faults("a list said of 6001", PackedGraph::new, "dc1771", 7, 0);
        Twin.faults("a list said of 65535", PackedGraph::new, "dcffff", 7, 0);
        Twin.faults("a longer list said of 6000", PackedGraph::new, "dd00001770", 1, 5);
        Twin.faults("a longer list said of 6001", PackedGraph::new, "dd00001771", 7, 0);
        Twin.faults("a map said of 3000", PackedGraph::new, "de0bb8", 1, 3);
        Twin.faults("a map said of 3001", PackedGraph::new, "de0bb9", 7, 0);
        Twin.faults("a map said of 65535", PackedGraph::new, "deffff", 7, 0);
        Twin.faults("a longer map said of 3000", PackedGraph::new, "df00000bb8", 1, 5);
        Twin.faults("a longer map said of 3001", PackedGraph::new, "df00000bb9", 7, 0);
        for (String n : new String[] {"00010000", "7fffffff", "80000000", "80000001", "ffffffff"}) {
            Twin.faults("a list said of " + n, PackedGraph::new, "dd" + n, 7, 0);
            Twin.faults("a list said of " + n + " with a value", PackedGraph::new, "dd" + n + "c0", 7, 0);
            Twin.faults("a map said of " + n, PackedGraph::new, "df" + n, 7, 0);
            Twin.faults("a map said of " + n + " with a value", PackedGraph::new, "df" + n + "c0", 7, 0);
        }
    }

    /** What a list or map says counts before its values are there. */
    private static void partsOfManyHeads() {
        Twin.faults("5999 and 1", PackedGraph::new, "dc176f 91", 1, 4);
        Twin.faults("5999 and 2", PackedGraph::new, "dc176f 92", 7, 3);
        Twin.faults("5998 and a pair", PackedGraph::new, "dc176e 81", 1, 4);
        Twin.faults("5999 and a pair", PackedGraph::new, "dc176f 81", 7, 3);
        Twin.faults("2999 pairs and 2", PackedGraph::new, "de0bb7 92", 1, 4);
        Twin.faults("2999 pairs and 3", PackedGraph::new, "de0bb7 93", 7, 3);
        Twin.faults("6000 and none", PackedGraph::new, "dc1770 90", 1, 4);
        Twin.faults("6000 and 1", PackedGraph::new, "dc1770 91", 7, 3);
        Twin.faults("5997, 2 that are there and 1", PackedGraph::new, "dc176d 92c0c0 91", 1, 7);
        Twin.faults("5997, 2 that are there and 2", PackedGraph::new, "dc176d 92c0c0 92", 7, 6);
        Twin.faults("with those before", () -> empty(withParts(1000)), "dc1388", 1, 3);
        Twin.faults("with those before and one more", () -> empty(withParts(1000)), "dc1389", 7, 0);
    }

    private static void partsAfterFaultAndClear() {
        PackedGraph x = empty(withParts(5990));
        Check.equal("a fault in a list of 10", Check.unpack(x, "9a c0 c0 c1"), PackedGraph.NONE);
        Check.equal("count(1) after the fault", x.count(1), 5990);
        Check.equal("10 still have room", Check.unpack(x, "9a" + Check.repeat("c0", 10)), 5);
        Check.equal("count(1)", x.count(1), 6000);
        x.clear();
        Check.equal("count(1) after clear()", x.count(1), 0);
        Check.equal("6000 again", Check.unpack(x, "dc1770 90" + Check.repeat("d40001", 5999)), 0);
        Check.refused("the 6001st after clear()", UNSUPPORTED, () -> x.add(1, 0));
    }

    private static void bytesMade() {
        for (String name : new String[] {"row(5)", "row(6)", "extension(5)"}) {
            Twin.Call maker = MAKERS.get(name);
            Twin.answers(name + ": byte 65535", () -> withBytes(65534), maker, 5);
            Twin.answers(name + ": byte 65536", () -> withBytes(65535), maker, 5);
            Twin.refuses(name + ": byte 65537", () -> withBytes(65536), maker, UNSUPPORTED);
            Twin.answers(name + ": no byte at 65536", () -> empty(withBytes(65536)), maker, 5);
            Twin.refuses(name + ": three at 65534", () -> onTape(withBytes(65534), "616263"), maker, UNSUPPORTED);
            Twin.answers(name + ": two at 65534", () -> onTape(withBytes(65534), "6162"), maker, 5);
            Twin.answers(name + ": 65536 at once", () -> ofTape(65536), maker, 0);
        }
        for (Map.Entry<String, Twin.Call> maker : MAKERS.entrySet()) {
            Twin.answers(maker.getKey() + " with all bytes", () -> empty(withBytes(65536)), maker.getValue(), 5);
        }
    }

    private static PackedGraph onTape(PackedGraph x, String hex) {
        x.end(0);
        Check.feed(x, hex);
        return x;
    }

    /** A tape of so many nulls. */
    private static PackedGraph ofTape(int n) {
        PackedGraph x = new PackedGraph();
        fill(x, n);
        return x;
    }

    /** The last twenty only fit when some before them have gone. */
    private static void fill(PackedGraph x, int n) {
        Check.feed(x, new byte[Math.min(n, 65500)]);
        if (n > 65500) {
            x.end(Math.min(n - 40, 65476));
            x.feed(0, 0, 0, 0, 0);
            x.feed(0, 0, 0, 0, 0);
            x.feed(0, 0, 0, 0, 0);
            x.end(n);
        }
    }

    private static void bytesRead() {
        for (String hex : new String[] {"a161", "d90161", "da000161", "db0000000161", "c40161", "c5000161",
            "c60000000161", "d40561", "c7010561", "c800010561", "c9000000010561"}) {
            Twin.reads("byte 65536 of " + hex, () -> empty(withBytes(65535)), hex, 1);
            Twin.faults("byte 65537 of " + hex, () -> empty(withBytes(65536)), hex, 7, 0);
            Twin.reads("byte 65536 within of " + hex, () -> empty(withBytes(65535)), "91" + hex, 2);
            Twin.faults("byte 65537 within of " + hex, () -> empty(withBytes(65536)), "92c0" + hex, 7, 2);
        }
        Twin.reads("two texts of the last two", () -> empty(withBytes(65534)), "92 a161 a161", 3);
        Twin.faults("two texts, one byte left", () -> empty(withBytes(65535)), "92 a161 a161", 7, 3);
        Twin.faults("a text of two, one byte left", () -> empty(withBytes(65535)), "a26161", 7, 0);
        for (String hex : new String[] {"a0", "c400", "c70005", "c0", "07", "cb0000000000000000", "90", "81c0c0"}) {
            Twin.answers("no byte of " + hex, () -> onTape(withBytes(65536), hex), x -> x.unpack(), 5);
        }
        for (String hex : TIMES) {
            Twin.reads("a time's bytes do not count in " + hex, () -> empty(withBytes(65536)), hex, 1);
        }
        Twin.reads("a reference's bytes do not count", () -> empty(withBytes(65536)), "91 d500cc00", 1);
        PackedGraph x = new PackedGraph();
        for (String hex : TIMES) {
            Check.unpack(x, hex);
        }
        Check.unpack(x, "92 d40580 d40000");
        Check.equal("only an extension's bytes count, and not its type", x.count(2), 1);
    }

    private static void bytesAfterFaultAndClear() {
        PackedGraph x = empty(withBytes(65533));
        Check.equal("a fault behind three bytes", Check.unpack(x, "92 a3616263 c1"), PackedGraph.NONE);
        Check.equal("count(2) after the fault", x.count(2), 65533);
        Check.equal("three still have room", Check.unpack(x, "a3616263"), 5);
        Check.equal("count(2)", x.count(2), 65536);
        x.clear();
        Check.equal("count(2) after clear()", x.count(2), 0);
        fill(x, 65536);
        Check.equal("65536 again", x.row(6), 0);
        Check.equal("count(2) again", x.count(2), 65536);
    }

    private static void tapeBytes() {
        for (int n : new int[] {0, 1, 65515, 65516}) {
            Twin.answers("feed behind " + n, () -> ofTape(n), x -> x.feed(1, 2, 3, 4, 5), n + 20);
        }
        for (int n : new int[] {65517, 65518, 65535, 65536}) {
            Twin.refuses("feed behind " + n, () -> ofTape(n), x -> x.feed(1, 2, 3, 4, 5), UNSUPPORTED);
        }
        PackedGraph x = ofTape(65516);
        x.feed(0, 0, 0, 0, 0x01020304);
        Check.equal("skip to the last byte", x.skip(65535), 65536);
        Check.refused("skip behind it", IndexOutOfBoundsException.class, () -> x.skip(65536));
        Check.refused("end behind it", ARGUMENT, () -> x.end(65537));
        x.end(65536);
        Check.equal("the whole tape", x.about(x.row(6), 1), 65536);
        Check.equal("its last byte", x.part(0, 65535), 4);
        Check.equal("the tape is empty then", x.count(3), 0);
    }

    /** Heads: 3 bytes of texts and bytes, 4 of an extension with its type. */
    private static void outBytesOfOneValue() {
        outBytes("text", 65533, x -> x.row(5));
        outBytes("bytes", 65533, x -> x.row(6));
        outBytes("extension", 65532, x -> x.extension(5));
    }

    private static void outBytes(String what, int most, Twin.Call maker) {
        Twin.Start fits = () -> ofRow(most, maker);
        Twin.Start fitsNot = () -> ofRow(most + 1, maker);
        Twin.answers(what + " to byte 65536: pack", fits, x -> x.pack(0), 65536);
        Twin.answers(what + " to byte 65536: about", fits, x -> x.about(0, 3), 65536);
        Twin.answers(what + " to byte 65536: same", fits, x -> x.same(0, 0), true);
        Twin.answers(what + " to byte 65536: find", fits, x -> x.find(2, 0), 1);
        Twin.refusesToPack(what + " to byte 65537: pack", fitsNot, 0);
        Twin.answers(what + " to byte 65537: about", fitsNot, x -> x.about(0, 3), 0);
        Twin.refuses(what + " to byte 65537: same", fitsNot, x -> x.same(0, 1), UNSUPPORTED);
        Twin.refuses(what + " to byte 65537: same, from the other side", fitsNot, x -> x.same(1, 0), UNSUPPORTED);
        Twin.refuses(what + " to byte 65537: same as itself", fitsNot, x -> x.same(0, 0), UNSUPPORTED);
        Twin.refuses(what + " to byte 65537: find", fitsNot, x -> x.find(2, 0), UNSUPPORTED);
        Twin.answers(what + " to byte 65537: find another", fitsNot, x -> x.find(2, 1), 0);
    }

    /** Value 0 is the row, 1 a nil, 2 a map from the one to the other and back; the nil is in the out. */
    private static PackedGraph ofRow(int n, Twin.Call maker) {
        PackedGraph x = ofTape(n);
        maker.on(x);
        int nil = x.nil();
        int map = x.group(8);
        x.put(map, 0, nil);
        x.put(map, nil, 0);
        x.pack(nil);
        Check.unpack(x, "91c1");
        Check.feed(x, "61");
        return x;
    }

    /** As many as 512 calls can make: 63 times the same 1024 bytes, and a last row of n and three bytes more. */
    private static PackedGraph listOfRows(int n) {
        PackedGraph x = new PackedGraph();
        int list = x.group(7);
        Check.feed(x, new byte[1021]);
        int row = x.row(6);
        for (int i = 0; i < 63; i++) {
            x.add(list, row);
        }
        Check.feed(x, new byte[n]);
        x.add(list, x.row(6));
        x.pack(x.nil());
        Check.unpack(x, "91c1");
        Check.feed(x, "61");
        return x;
    }

    private static void outBytesOfAList() {
        Twin.answers("a list to byte 65535", () -> listOfRows(1017), x -> x.pack(0), 65535);
        Twin.answers("a list to byte 65536", () -> listOfRows(1018), x -> x.pack(0), 65536);
        Twin.refusesToPack("a list to byte 65537", () -> listOfRows(1019), 0);
        Twin.answers("same to byte 65536", () -> listOfRows(1018), x -> x.same(0, 0), true);
        Twin.refuses("same to byte 65537", () -> listOfRows(1019), x -> x.same(3, 0), UNSUPPORTED);
        PackedGraph x = listOfRows(1018);
        x.pack(0);
        Check.equal("its first byte", x.shown(0), 0xdc);
        Check.equal("its last byte", x.shown(65535), 0);
        Check.refused("none behind it", IndexOutOfBoundsException.class, () -> x.shown(65536));
        // A reference of three bytes takes the place of three bytes of the row.
        PackedGraph y = listOfRows(1015);
        Check.equal("with a reference", y.add(0, 0), 65);
        Check.equal("to byte 65536", y.pack(0), 65536);
        y.add(0, 3);
        Check.refused("to byte 65537", UNSUPPORTED, () -> y.pack(0));
        Check.equal("the out is empty", y.count(4), 0);
        Check.equal("what fits is packed again", y.pack(3), 1);
    }

    private static void outBytesOfOtherCalls() {
        PackedGraph x = listOfRows(1019);
        int map = x.group(8);
        int one = x.integer(1, false);
        x.put(map, 0, one);
        x.put(map, one, one);
        Check.equal("find goes over a key of 65537", x.find(map, one), one);
        Check.refused("find of 65537", UNSUPPORTED, () -> x.find(map, 0));
        Check.equal("the out stays", Check.out(x), "c0");
    }

    private static void openOnesRead() {
        String[] ways = {"91", "81c0", "dc0001", "dd00000001", "de0001c0", "df00000001c0"};
        for (String way : ways) {
            String open23 = Check.repeat(way, 23);
            String open24 = Check.repeat(way, 24);
            int each = way.endsWith("c0") ? 2 : 1;
            for (String last : new String[] {"90", "80", "dc0000", "de0000"}) {
                Twin.reads("23 " + way + ", then " + last, PackedGraph::new, open23 + last, 23 * each + 1);
                Twin.faults("24 " + way + ", then " + last, PackedGraph::new, open24 + last, 6, open24.length() / 2);
            }
            for (String last : new String[] {"c0", "a0", "c400", "c70005", "d6ff00000000"}) {
                Twin.reads("24 " + way + ", then " + last, PackedGraph::new, open24 + last, 24 * each + 1);
            }
            for (String last : new String[] {"d40000", "d40017", "d500cc17"}) {
                Twin.reads("24 " + way + ", then " + last, PackedGraph::new, open24 + last, 24 * each);
            }
        }
        // A map's key is in it as its value is.
        Twin.reads("24 in keys", PackedGraph::new, Check.repeat("81", 24) + Check.repeat("c0", 25), 49);
        Twin.faults("25 in keys", PackedGraph::new, Check.repeat("81", 25) + Check.repeat("c0", 26), 6, 24);
        // What was closed again is not open.
        String twice = "92" + Check.repeat("91", 23) + "c0" + Check.repeat("91", 23);
        Twin.reads("twice 23 in one", PackedGraph::new, twice + "c0", 49);
        Twin.faults("the second is too deep", PackedGraph::new, twice + "90", 6, 48);
        Twin.reads("many side by side", PackedGraph::new, "dc0064" + Check.repeat("90", 100), 101);
    }

    /** Value 0 is the outermost of n lists and maps in turn; the innermost holds a nil, the last value. */
    private static PackedGraph openOnes(int n) {
        PackedGraph x = new PackedGraph();
        for (int v = 0; v < n; v++) {
            x.group(v % 2 == 0 ? 7 : 8);
        }
        int nil = x.nil();
        for (int v = 0; v < n; v++) {
            if (v % 2 == 0) {
                x.add(v, v + 1);
            } else {
                x.put(v, nil, v + 1);
            }
        }
        x.pack(nil);
        Check.unpack(x, "91c1");
        Check.feed(x, "61");
        return x;
    }

    private static void openOnesPacked() {
        Twin.answers("23 open ones packed", () -> openOnes(23), x -> x.pack(0), 23 + 11 + 1);
        Twin.answers("24 open ones packed", () -> openOnes(24), x -> x.pack(0), 24 + 12 + 1);
        Twin.refusesToPack("25 open ones packed", () -> openOnes(25), 0);
        Twin.refusesToPack("26 open ones packed", () -> openOnes(26), 0);
        Twin.answers("those within the outermost", () -> openOnes(25), x -> x.pack(1), 24 + 12 + 1);
        PackedGraph x = openOnes(24);
        x.add(22, 0);
        x.put(23, 23, 23);
        Check.equal("references in 24 open ones", x.pack(0), 24 + 12 + 1 + 3 + 6);
        int empty = x.group(7);
        x.put(23, empty, empty);
        Check.refused("an empty list in 24 open ones", UNSUPPORTED, () -> x.pack(0));
        Check.equal("the out is empty", x.count(4), 0);
        Check.equal("the same list in 23 open ones", x.pack(1), 23 + 12 + 1 + 6 + 4 + 4);
    }

    private static void openOnesOfOtherCalls() {
        Twin.answers("same with 24 open ones", () -> openOnes(24), x -> x.same(0, 0), true);
        Twin.answers("same with 24 open ones and a nil", () -> openOnes(24), x -> x.same(0, 24), false);
        Twin.refuses("same with 25 open ones", () -> openOnes(25), x -> x.same(0, 0), UNSUPPORTED);
        Twin.refuses("same with 25 open ones and a nil", () -> openOnes(25), x -> x.same(0, 25), UNSUPPORTED);
        Twin.refuses("same of a nil and 25 open ones", () -> openOnes(25), x -> x.same(25, 0), UNSUPPORTED);
        Twin.answers("find of 24 open ones", () -> openOnes(24), x -> x.find(23, 0), -1);
        Twin.refuses("find of 25 open ones", () -> openOnes(25), x -> x.find(23, 0), UNSUPPORTED);
        Twin.answers("find of 24 within 25", () -> openOnes(25), x -> x.find(23, 1), -1);
        PackedGraph x = openOnes(25);
        int map = x.group(8);
        int first = x.integer(1, false);
        int second = x.integer(2, false);
        x.put(map, 0, first);
        x.put(map, 1, second);
        Check.equal("find goes over a key with 25 open ones", x.find(map, 1), second);
        Check.equal("and finds none", x.find(map, second), PackedGraph.NONE);
        Check.equal("the out stays", Check.out(x), "c0");
    }
}
