/** Which integers, texts, types and times there are, and which packed form is the first that has a value. */
public final class RangeTest {
    private static final Class<IllegalArgumentException> ARGUMENT = IllegalArgumentException.class;

    public static void main(String[] args) {
        integersPacked();
        integersOfTheEnds();
        integersRead();
        floatsAndDoubles();
        characters();
        wrongCharacters();
        rowsPacked();
        extensionsPacked();
        groupsPacked();
        types();
        nanosMade();
        timesPacked();
        timesRead();
        nanosRead();
        referencesPacked();
        referencesComeToInTurn();
        Check.close("RangeTest");
    }

    private static PackedGraph withTape(String hex) {
        PackedGraph x = new PackedGraph();
        Check.unpack(x, "91c1");
        x.pack(x.nil());
        Check.feed(x, hex);
        return x;
    }

    private static void packs(String what, PackedGraph x, int v, String hex) {
        String due = hex.replace(" ", "");
        Check.equal(what, Check.packed(x, v), due);
        int kind = x.about(v, 0);
        Check.equal(what + ": about(v, 3)", x.about(v, 3), kind == 7 || kind == 8 ? 0 : due.length() / 2);
    }

    private static void packsInteger(long v, String hex) {
        PackedGraph x = new PackedGraph();
        packs("integer " + v, x, x.integer(v, false), hex);
        if (v >= 0) {
            packs("integer " + v + ", high", x, x.integer(v, true), hex);
        }
        int read = Check.unpack(x, hex);
        Check.equal("integer " + v + " read", x.number(read), v);
        Check.equal("integer " + v + " is the same", x.same(0, read), true);
    }

    private static void integersPacked() {
        packsInteger(0, "00");
        packsInteger(1, "01");
        packsInteger(127, "7f");
        packsInteger(128, "cc80");
        packsInteger(255, "ccff");
        packsInteger(256, "cd0100");
        packsInteger(65535, "cdffff");
        packsInteger(65536, "ce00010000");
        packsInteger(0x7fffffffL, "ce7fffffff");
        packsInteger(0x80000000L, "ce80000000");
        packsInteger(0xffffffffL, "ceffffffff");
        packsInteger(0x100000000L, "cf0000000100000000");
        packsInteger(Long.MAX_VALUE, "cf7fffffffffffffff");
        packsInteger(-1, "ff");
        packsInteger(-32, "e0");
        packsInteger(-33, "d0df");
        packsInteger(-128, "d080");
        packsInteger(-129, "d1ff7f");
        packsInteger(-256, "d1ff00");
        packsInteger(-32768, "d18000");
        packsInteger(-32769, "d2ffff7fff");
        packsInteger(-65536, "d2ffff0000");
        packsInteger(-0x80000000L, "d280000000");
        packsInteger(-0x80000001L, "d3ffffffff7fffffff");
        packsInteger(-0x100000000L, "d3ffffffff00000000");
        packsInteger(Long.MIN_VALUE + 1, "d38000000000000001");
        packsInteger(Long.MIN_VALUE, "d38000000000000000");
    }

    /** -2^63 and 2^64 - 1 are the ends, and number() ends before 2^63. */
    private static void integersOfTheEnds() {
        PackedGraph x = new PackedGraph();
        long[] high = {Long.MIN_VALUE, Long.MIN_VALUE + 1, -33, -32, -1};
        String[] forms = {"cf8000000000000000", "cf8000000000000001", "cfffffffffffffffdf", "cfffffffffffffffe0",
            "cfffffffffffffffff"};
        for (int i = 0; i < high.length; i++) {
            int v = x.integer(high[i], true);
            packs("2^64 and " + high[i], x, v, forms[i]);
            Check.refused("number of 2^64 and " + high[i], ArithmeticException.class, () -> x.number(v));
            int read = Check.unpack(x, forms[i]);
            Check.refused("number of " + forms[i], ArithmeticException.class, () -> x.number(read));
            Check.equal("2^64 and " + high[i] + " is the same", x.same(v, read), true);
            Check.equal("not the same as " + high[i], x.same(v, x.integer(high[i], false)), false);
        }
        Check.equal("number of 2^63 - 1", x.number(x.integer(Long.MAX_VALUE, true)), Long.MAX_VALUE);
        Check.equal("number of -2^63", x.number(x.integer(Long.MIN_VALUE, false)), Long.MIN_VALUE);
        Check.equal("number of 0, high", x.number(x.integer(0, true)), 0L);
    }

    private static void readsInteger(String hex, long due) {
        PackedGraph x = new PackedGraph();
        Check.equal("unpack of " + hex, Check.unpack(x, hex), 0);
        Check.equal("kind of " + hex, x.about(0, 0), 2);
        Check.equal("number of " + hex, x.number(0), due);
    }

    private static void integersRead() {
        for (int n = 0; n < 128; n++) {
            readsInteger(String.format("%02x", n), n);
        }
        for (int n = -32; n < 0; n++) {
            readsInteger(String.format("%02x", n & 255), n);
        }
        String[] zeros = {"cc00", "cd0000", "ce00000000", "cf0000000000000000", "d000", "d10000", "d200000000",
            "d30000000000000000"};
        for (String zero : zeros) {
            readsInteger(zero, 0);
        }
        readsInteger("cc7f", 127);
        readsInteger("cc80", 128);
        readsInteger("ccff", 255);
        readsInteger("cd7fff", 32767);
        readsInteger("cd8000", 32768);
        readsInteger("cdffff", 65535);
        readsInteger("ce7fffffff", 0x7fffffffL);
        readsInteger("ce80000000", 0x80000000L);
        readsInteger("ceffffffff", 0xffffffffL);
        readsInteger("cf7fffffffffffffff", Long.MAX_VALUE);
        readsInteger("d07f", 127);
        readsInteger("d080", -128);
        readsInteger("d0ff", -1);
        readsInteger("d17fff", 32767);
        readsInteger("d18000", -32768);
        readsInteger("d1ffff", -1);
        readsInteger("d27fffffff", 0x7fffffffL);
        readsInteger("d280000000", -0x80000000L);
        readsInteger("d2ffffffff", -1);
        readsInteger("d37fffffffffffffff", Long.MAX_VALUE);
        readsInteger("d38000000000000000", Long.MIN_VALUE);
        readsInteger("d3ffffffffffffffff", -1);
    }

    private static void floatsAndDoubles() {
        long[] bits = {0, 1, 0x7fffffffL, 0x80000000L, 0xffffffffL, 0x100000000L, Long.MAX_VALUE, Long.MIN_VALUE, -1};
        for (long all : bits) {
            PackedGraph x = new PackedGraph();
            long lowest = all & 0xffffffffL;
            packs("float of " + all, x, x.real(all, false), String.format("ca%08x", lowest));
            packs("double of " + all, x, x.real(all, true), String.format("cb%016x", all));
            Check.equal("number of a float of " + all, x.number(0), lowest);
            Check.equal("number of a double of " + all, x.number(1), all);
            Check.equal("float read", x.number(Check.unpack(x, String.format("ca%08x", lowest))), lowest);
            Check.equal("double read", x.number(Check.unpack(x, String.format("cb%016x", all))), all);
            Check.equal("kinds", "" + x.about(0, 0) + x.about(1, 0) + x.about(2, 0) + x.about(3, 0), "3434");
        }
    }

    private static String utf8(int character, int n) {
        String[] leads = {"", "", "c0", "e0", "f0"};
        if (n == 1) {
            return String.format("%02x", character);
        }
        StringBuilder all = new StringBuilder();
        all.append(String.format("%02x", Integer.parseInt(leads[n], 16) + (character >> 6 * (n - 1))));
        for (int i = n - 2; i >= 0; i--) {
            all.append(String.format("%02x", 0x80 + (character >> 6 * i & 63)));
        }
        return all.toString();
    }

    private static void isText(String what, String hex) {
        for (String text : new String[] {hex, "41" + hex, hex + "41", hex + hex}) {
            Twin.answers(what + ": row(5) of " + text, () -> withTape(text), x -> x.row(5), 1);
            String lead = String.format("%02x", 0xa0 + text.length() / 2);
            Twin.reads(what + ": unpack of " + text, PackedGraph::new, lead + text, 1);
        }
    }

    private static void isNoText(String what, String hex) {
        for (String before : new String[] {"", "41", "c3a9", "e282ac", "f09f9880"}) {
            for (String behind : new String[] {"", "41", "80", "bfbfbf"}) {
                String text = before + hex + behind;
                Twin.refuses(what + ": row(5) of " + text, () -> withTape(text), x -> x.row(5), ARGUMENT);
                Twin.answers(what + ": row(6) of " + text, () -> withTape(text), x -> x.row(6), 1);
                String lead = String.format("%02x", 0xa0 + text.length() / 2);
                Twin.faults(what + ": unpack of " + text, PackedGraph::new, lead + text, 3, 1 + before.length() / 2);
                Twin.faults(what + ": unpack within of " + text, PackedGraph::new,
                    String.format("92c0d9%02x", text.length() / 2) + text, 3, 4 + before.length() / 2);
            }
        }
    }

    private static void characters() {
        isText("no character", "");
        int[] right = {0, 1, 127, 128, 2047, 2048, 55295, 57344, 65535, 65536, 1114111};
        int[] lengths = {1, 1, 1, 2, 2, 3, 3, 3, 3, 4, 4};
        for (int i = 0; i < right.length; i++) {
            isText("character " + right[i], utf8(right[i], lengths[i]));
        }
    }

    private static void wrongCharacters() {
        for (int character : new int[] {0, 1, 127}) {
            for (int n = 2; n <= 4; n++) {
                isNoText(character + " in " + n, utf8(character, n));
            }
        }
        for (int character : new int[] {128, 2047}) {
            isNoText(character + " in 3", utf8(character, 3));
            isNoText(character + " in 4", utf8(character, 4));
        }
        for (int character : new int[] {2048, 55295, 57344, 65535}) {
            isNoText(character + " in 4", utf8(character, 4));
        }
        for (int character : new int[] {55296, 56319, 56320, 57343}) {
            isNoText(character + ", which is none", utf8(character, 3));
            isNoText(character + " in 4, which is none", utf8(character, 4));
        }
        for (int character : new int[] {1114112, 0x13ffff, 0x140000, 0x1fffff}) {
            isNoText(character + ", which is none", utf8(character, 4));
        }
        for (String lead : new String[] {"80", "bf", "f8", "fb", "fc", "fd", "fe", "ff"}) {
            isNoText("no lead", lead);
        }
        for (String part : new String[] {"c3", "e2", "e282", "f0", "f09f", "f09f98"}) {
            Twin.refuses("row(5) of a part, " + part, () -> withTape("41" + part), x -> x.row(5), ARGUMENT);
            Twin.faults("unpack of a part, " + part, PackedGraph::new,
                String.format("%02x41", 0xa1 + part.length() / 2) + part, 3, 2);
            // What is behind the text does not make the character whole.
            Twin.faults("unpack of a part, with more behind", PackedGraph::new,
                String.format("92%02x41", 0xa1 + part.length() / 2) + part + "808080", 3, 3);
            isNoText("a part before another", part + "41");
            isNoText("a part before a lead", part + "c0");
            isNoText("a part before a lead", part + "ff");
        }
    }

    private static String nulls(int n) {
        return Check.repeat("00", n);
    }

    private static void packsRow(String what, int n, Twin.Call maker, String head) {
        PackedGraph x = new PackedGraph();
        Check.feed(x, nulls(n));
        maker.on(x);
        packs(what + " of " + n, x, 0, head + nulls(n));
        int read = Check.unpack(x, head + nulls(n));
        Check.equal(what + " of " + n + " read", read, 1);
        Check.equal(what + " of " + n + ": how many", x.about(read, 1), n);
        Check.equal(what + " of " + n + ": the same", x.same(0, read), true);
    }

    private static void rowsPacked() {
        String[] texts = {"a0", "a1", "af", "b0", "be", "bf", "d920", "d921", "d97f", "d980", "d9ff", "da0100",
            "da0101", "da1000"};
        String[] bytes = {"c400", "c401", "c40f", "c410", "c41e", "c41f", "c420", "c421", "c47f", "c480", "c4ff",
            "c50100", "c50101", "c51000"};
        int[] n = {0, 1, 15, 16, 30, 31, 32, 33, 127, 128, 255, 256, 257, 4096};
        for (int i = 0; i < n.length; i++) {
            packsRow("text", n[i], x -> x.row(5), texts[i]);
            packsRow("bytes", n[i], x -> x.row(6), bytes[i]);
        }
    }

    private static void extensionsPacked() {
        String[] fixed = {"d4", "d5", "d6", "d7", "d8"};
        for (int n = 0; n <= 40; n++) {
            boolean isFixed = n <= 16 && Integer.bitCount(n) == 1;
            String head = isFixed ? fixed[Integer.numberOfTrailingZeros(n)] : String.format("c7%02x", n);
            packsRow("extension", n, x -> x.extension(-128), head + "80");
        }
        int[] n = {64, 128, 254, 255, 256, 257, 512, 1024};
        String[] heads = {"c740", "c780", "c7fe", "c7ff", "c80100", "c80101", "c80200", "c80400"};
        for (int i = 0; i < n.length; i++) {
            packsRow("extension", n[i], x -> x.extension(127), heads[i] + "7f");
        }
    }

    private static void groupsPacked() {
        int[] n = {0, 1, 2, 14, 15, 16, 17, 31, 32, 127, 128, 255, 256, 257, 1000};
        String[] lists = {"90", "91", "92", "9e", "9f", "dc0010", "dc0011", "dc001f", "dc0020", "dc007f", "dc0080",
            "dc00ff", "dc0100", "dc0101", "dc03e8"};
        for (int i = 0; i < n.length; i++) {
            String map = n[i] < 16 ? String.format("%02x", 0x80 + n[i]) : "de" + lists[i].substring(2);
            packsGroup("list of " + n[i], lists[i], n[i], Check.repeat("c0", n[i]));
            packsGroup("map of " + n[i], map, n[i], Check.repeat("c0c3", n[i]));
            packsGroup("list of " + n[i] + " in 4 bytes", String.format("dd%08x", n[i]), lists[i], n[i], "c0");
            packsGroup("map of " + n[i] + " in 4 bytes", String.format("df%08x", n[i]), map, n[i], "c0c3");
            packsGroup("list of " + n[i] + " in 2 bytes", String.format("dc%04x", n[i]), lists[i], n[i], "c0");
            packsGroup("map of " + n[i] + " in 2 bytes", String.format("de%04x", n[i]), map, n[i], "c0c3");
        }
        PackedGraph x = new PackedGraph();
        Check.unpack(x, "dc176f 90" + Check.repeat("d40001", 5998));
        packs("list of 5999", x, 0, "dc176f 90" + Check.repeat("d40001", 5998));
        x.add(0, 1);
        packs("list of 6000", x, 0, "dc1770 90" + Check.repeat("d40001", 5999));
        Check.unpack(empty(x), "de0bb8 90" + Check.repeat("d40001", 5999));
        packs("map of 3000", x, 0, "de0bb8 90" + Check.repeat("d40001", 5999));
    }

    private static PackedGraph empty(PackedGraph x) {
        x.clear();
        return x;
    }

    private static void packsGroup(String what, String head, int n, String within) {
        PackedGraph x = new PackedGraph();
        Check.equal(what + " read", Check.unpack(x, head + within), 0);
        Check.equal(what + ": how many", x.about(0, 1), n);
        packs(what, x, 0, head + within);
    }

    private static void packsGroup(String what, String from, String to, int n, String each) {
        PackedGraph x = new PackedGraph();
        Check.equal(what + " read", Check.unpack(x, from + Check.repeat(each, n)), 0);
        packs(what, x, 0, to + Check.repeat(each, n));
    }

    private static void types() {
        for (int type = -140; type <= 140; type++) {
            int made = type;
            boolean is = type >= -128 && type <= 127 && type != -1 && type != 0;
            if (is) {
                Twin.answers("extension(" + type + ")", () -> withTape("6162"), x -> x.extension(made), 1);
                PackedGraph x = withTape("6162");
                x.extension(type);
                Check.equal("type " + type, x.about(1, 2), type);
                packs("type " + type, x, 1, String.format("d5%02x6162", type & 255));
                int read = Check.unpack(x, String.format("d5%02x6162", type & 255));
                Check.equal("type " + type + " read", x.about(read, 2), type);
                Check.equal("kind of type " + type + " read", x.about(read, 0), 9);
            } else {
                Twin.refuses("extension(" + type + ")", () -> withTape("6162"), x -> x.extension(made), ARGUMENT);
            }
        }
        for (int type : new int[] {255, 256, 257, -255, -256, -257, Integer.MIN_VALUE, Integer.MAX_VALUE}) {
            Twin.refuses("extension(" + type + ")", () -> withTape("6162"), x -> x.extension(type), ARGUMENT);
        }
    }

    private static void nanosMade() {
        for (int nanos : new int[] {0, 1, 999999998, 999999999}) {
            for (long seconds : new long[] {Long.MIN_VALUE, -1, 0, 1, Long.MAX_VALUE}) {
                Twin.answers("time(" + seconds + ", " + nanos + ")", () -> withTape("61"), x -> x.time(seconds, nanos),
                    1);
                PackedGraph x = new PackedGraph();
                x.time(seconds, nanos);
                Check.equal("seconds", x.number(0), seconds);
                Check.equal("nanos", x.about(0, 2), nanos);
            }
        }
        for (int nanos : new int[] {-1, 1000000000, Integer.MIN_VALUE, Integer.MAX_VALUE}) {
            Twin.refuses("time(5, " + nanos + ")", () -> withTape("61"), x -> x.time(5, nanos), ARGUMENT);
        }
    }

    private static void packsTime(long seconds, int nanos, String hex) {
        PackedGraph x = new PackedGraph();
        String what = "time of " + seconds + " and " + nanos;
        packs(what, x, x.time(seconds, nanos), hex);
        int read = Check.unpack(x, hex);
        Check.equal(what + " read", x.about(read, 0), 10);
        Check.equal(what + ": seconds read", x.number(read), seconds);
        Check.equal(what + ": nanos read", x.about(read, 2), nanos);
        Check.equal(what + ": the same", x.same(0, read), true);
    }

    private static void timesPacked() {
        packsTime(0, 0, "d6ff 00000000");
        packsTime(1, 0, "d6ff 00000001");
        packsTime(0x7fffffffL, 0, "d6ff 7fffffff");
        packsTime(0x80000000L, 0, "d6ff 80000000");
        packsTime(0xffffffffL, 0, "d6ff ffffffff");
        packsTime(0x100000000L, 0, "d7ff 0000000100000000");
        packsTime(0, 1, "d7ff 0000000400000000");
        packsTime(0xffffffffL, 1, "d7ff 00000004ffffffff");
        packsTime(0, 999999999, "d7ff ee6b27fc00000000");
        packsTime(0x3ffffffffL, 0, "d7ff 00000003ffffffff");
        packsTime(0x3ffffffffL, 1, "d7ff 00000007ffffffff");
        packsTime(0x3ffffffffL, 999999999, "d7ff ee6b27ffffffffff");
        packsTime(0x400000000L, 0, "c70cff 00000000 0000000400000000");
        packsTime(0x400000000L, 1, "c70cff 00000001 0000000400000000");
        packsTime(0x400000000L, 999999999, "c70cff 3b9ac9ff 0000000400000000");
        packsTime(Long.MAX_VALUE, 0, "c70cff 00000000 7fffffffffffffff");
        packsTime(-1, 0, "c70cff 00000000 ffffffffffffffff");
        packsTime(-1, 999999999, "c70cff 3b9ac9ff ffffffffffffffff");
        packsTime(-0x100000000L, 0, "c70cff 00000000 ffffffff00000000");
        packsTime(Long.MIN_VALUE, 0, "c70cff 00000000 8000000000000000");
        packsTime(Long.MIN_VALUE, 1, "c70cff 00000001 8000000000000000");
    }

    private static void repacked(String from, String to) {
        PackedGraph x = new PackedGraph();
        Check.equal("unpack of " + from, Check.unpack(x, from), 0);
        packs(from + " packed", x, 0, to);
    }

    private static void timesRead() {
        for (String head : new String[] {"d6", "c704", "c80004", "c900000004"}) {
            repacked(head + "ff fffffffe", "d6ff fffffffe");
        }
        for (String head : new String[] {"d7", "c708", "c80008", "c900000008"}) {
            repacked(head + "ff 0000000700000009", "d7ff 0000000700000009");
            repacked(head + "ff 00000000ffffffff", "d6ff ffffffff");
        }
        for (String head : new String[] {"c70c", "c8000c", "c90000000c"}) {
            repacked(head + "ff 00000001 ffffffffffffffff", "c70cff 00000001 ffffffffffffffff");
            repacked(head + "ff 00000001 00000003ffffffff", "d7ff 00000007ffffffff");
            repacked(head + "ff 00000000 00000000ffffffff", "d6ff ffffffff");
        }
        for (int n = 0; n <= 20; n++) {
            String time = "ff" + nulls(n);
            for (String head : new String[] {String.format("c7%02x", n), String.format("c8%04x", n),
                String.format("c9%08x", n)}) {
                if (n == 4 || n == 8 || n == 12) {
                    Twin.reads("a time of " + n, PackedGraph::new, head + time, 1);
                } else {
                    Twin.faults("a time of " + n, PackedGraph::new, head + time, 4, 0);
                    Twin.faults("a time of " + n + " within", PackedGraph::new, "92c0" + head + time, 4, 2);
                }
            }
        }
        Twin.faults("a time of 1", PackedGraph::new, "d4ff" + nulls(1), 4, 0);
        Twin.faults("a time of 2", PackedGraph::new, "d5ff" + nulls(2), 4, 0);
        Twin.faults("a time of 16", PackedGraph::new, "d8ff" + nulls(16), 4, 0);
        Twin.faults("a time of 256", PackedGraph::new, "c80100ff" + nulls(256), 4, 0);
        Twin.faults("a time of 260", PackedGraph::new, "c80104ff" + nulls(260), 4, 0);
    }

    private static void nanosRead() {
        // 999999999 times 2^34 is ee6b27fc00000000, and 10^9 times it ee6b280000000000.
        String[] right = {"d7ff ee6b27fc00000000", "d7ff ee6b27ffffffffff", "c70cff 3b9ac9ff 0000000000000000",
            "c70cff 3b9ac9ff ffffffffffffffff", "d7ff 8000000000000000"};
        String[] wrong = {"d7ff ee6b280000000000", "d7ff ee6b280000000001", "d7ff ffffffffffffffff",
            "d7ff f000000000000000", "c70cff 3b9aca00 0000000000000000", "c70cff 3b9aca00 ffffffffffffffff",
            "c70cff 7fffffff 0000000000000000", "c70cff 80000000 0000000000000000", "c70cff ffffffff 0000000000000000"};
        for (String hex : right) {
            Twin.reads("nanos of " + hex, PackedGraph::new, hex, 1);
        }
        for (String hex : wrong) {
            Twin.faults("nanos of " + hex, PackedGraph::new, hex, 4, 0);
            Twin.faults("nanos within of " + hex, PackedGraph::new, "91" + hex, 4, 1);
        }
    }

    /** A list of 300 lists: the n-th of them is the one come to as the n-th, from 1, as the outer one is from 0. */
    private static void referencesPacked() {
        String lists = Check.repeat("90", 2900);
        int[] turns = {0, 1, 127, 128, 255, 256, 257, 2899, 2900};
        String[] forms = {"d40000", "d40001", "d4007f", "d500cc80", "d500ccff", "c70300cd0100", "c70300cd0101",
            "c70300cd0b53", "c70300cd0b54"};
        PackedGraph x = new PackedGraph();
        int all = Check.unpack(x, "dc0b54" + lists);
        StringBuilder due = new StringBuilder();
        for (int i = 0; i < turns.length; i++) {
            x.add(all, turns[i] == 0 ? all : x.part(all, turns[i] - 1));
            due.append(forms[i]);
        }
        packs("references", x, all, "dc0b5d" + lists + due);
    }

    private static void referencesComeToInTurn() {
        PackedGraph x = new PackedGraph();
        int map = x.group(8);
        int key = x.group(7);
        int text = Check.unpack(x, "a161");
        x.put(map, key, key);
        x.put(map, text, map);
        packs("a key before its value", x, map, "82 90 d40001 a161 d40000");
        packs("no other packing counts", x, key, "90");
        x.add(key, map);
        packs("from the outer one", x, map, "82 91d40000 d40001 a161 d40000");
        packs("from the inner one", x, key, "91 82 d40000 d40000 a161 d40001");
        int row = x.group(7);
        for (int v : new int[] {text, text, x.nil(), x.nil()}) {
            x.add(row, v);
        }
        packs("no other kind is referred to", x, row, "94 a161 a161 c0 c0");
        int twice = x.group(7);
        int empty = x.group(8);
        x.add(twice, empty);
        x.add(twice, empty);
        packs("an empty map is referred to", x, twice, "92 80 d40001");
        int alike = x.group(7);
        x.add(alike, x.group(8));
        x.add(alike, x.group(8));
        packs("two alike are two", x, alike, "92 80 80");
        Check.equal("and not the same", x.same(twice, alike), false);
    }
}
