/** Each promise of the document by hand: ordinary inputs, the edges it names, wrong inputs. */
public final class PromiseTest {
    private static final Class<IndexOutOfBoundsException> INDEX = IndexOutOfBoundsException.class;
    private static final Class<IllegalArgumentException> ARGUMENT = IllegalArgumentException.class;
    private static final Class<UnsupportedOperationException> UNSUPPORTED = UnsupportedOperationException.class;
    private static final Class<ArithmeticException> ARITHMETIC = ArithmeticException.class;

    public static void main(String[] args) {
        newObject();
        feed();
        end();
        unpack();
        unpackFailed();
        fault();
        faultsInOrder();
        faultsAtTheEnd();
        faultsOfCharacters();
        faultsOfTimes();
        faultsOfReferences();
        faultsOfDepth();
        faultsOfRoom();
        skip();
        pack();
        packReferences();
        packLimits();
        shown();
        nilAndTruth();
        integer();
        real();
        row();
        extension();
        time();
        group();
        add();
        put();
        about();
        number();
        part();
        same();
        find();
        findUnpackable();
        count();
        clear();
        roomForValues();
        Check.close("PromiseTest");
    }

    private static void counts(String what, PackedGraph x, int... due) {
        for (int i = 0; i < due.length; i++) {
            Check.equal(what + ": count(" + i + ")", x.count(i), due[i]);
        }
    }

    private static void faultIs(String hex, int code, int place) {
        PackedGraph x = new PackedGraph();
        faultIs(x, hex, code, place);
        counts("after the fault of " + hex, x, 0, 0, 0, 0, 0);
    }

    private static void faultIs(PackedGraph x, String hex, int code, int place) {
        int values = x.count(0);
        int v = Check.unpack(x, hex);
        String what = hex.length() > 60 ? hex.substring(0, 60) + ".." : hex;
        Check.equal("unpack of " + what, v, code == 0 ? values : PackedGraph.NONE);
        Check.equal("code of the fault of " + what, x.fault(0), code);
        Check.equal("place of the fault of " + what, x.fault(1), place);
        Check.equal("tape after " + what, x.count(3), 0);
    }

    /** What is read from one form is packed in the shortest. */
    private static void repacked(String from, String to) {
        PackedGraph x = new PackedGraph();
        int v = Check.unpack(x, from);
        Check.equal("unpack of " + from, v, 0);
        if (v == 0) {
            Check.equal(from + " packed", Check.packed(x, v), to.replace(" ", ""));
        }
    }

    private static void newObject() {
        PackedGraph x = new PackedGraph();
        counts("new", x, 0, 0, 0, 0, 0);
        Check.equal("new: fault(0)", x.fault(0), 0);
        Check.equal("new: fault(1)", x.fault(1), 0);
        Check.equal("NONE", PackedGraph.NONE, -1);
        Check.refused("new: shown(0)", INDEX, () -> x.shown(0));
        Check.refused("new: pack(0)", INDEX, () -> x.pack(0));
    }

    private static void feed() {
        PackedGraph x = new PackedGraph();
        Check.equal("feed", x.feed(0x01020304, 0x05060708, 0x090a0b0c, 0x0d0e0f10, 0xfffefdfc), 20);
        Check.equal("feed again", x.feed(-1, 0, 0, 0, 0x7f), 40);
        int v = x.row(6);
        String all = "";
        for (int i = 0; i < 40; i++) {
            all += String.format("%02x", x.part(v, i));
        }
        Check.equal("bytes fed", all, "0102030405060708090a0b0c0d0e0f10fffefdfcffffffff0000000000000000000000000000007f");
        PackedGraph y = new PackedGraph();
        // Past the 512th call nothing is promised, but there is no other way to the limit.
        for (int i = 1; i <= 3276; i++) {
            y.feed(0, 0, 0, 0, 0);
        }
        Check.equal("full tape", y.count(3), 65520);
        Check.refused("feed of a full tape", UNSUPPORTED, () -> y.feed(0, 0, 0, 0, 0));
        Check.equal("full tape stays", y.count(3), 65520);
        zeros(y, 65517);
        Check.refused("feed past the last byte", UNSUPPORTED, () -> y.feed(0, 0, 0, 0, 0));
        y.end(65516);
        Check.equal("feed to the last byte", y.feed(0, 0, 0, 0, 0), 65536);
    }

    private static void end() {
        PackedGraph x = new PackedGraph();
        x.end(0);
        Check.refused("end(1) of nothing", ARGUMENT, () -> x.end(1));
        x.feed(0x01020304, 0, 0, 0, 0);
        Check.refused("end(-1)", ARGUMENT, () -> x.end(-1));
        Check.refused("end(21)", ARGUMENT, () -> x.end(21));
        Check.equal("tape stays", x.count(3), 20);
        x.end(20);
        Check.equal("end(20)", x.count(3), 20);
        x.end(3);
        x.feed(0x05060708, 0, 0, 0, 0);
        x.end(5);
        int v = x.row(6);
        Check.equal("byte 2", x.part(v, 2), 3);
        Check.equal("byte 3", x.part(v, 3), 5);
        Check.equal("bytes", x.about(v, 1), 5);
    }

    private static void unpack() {
        PackedGraph x = new PackedGraph();
        Check.equal("a value before", x.nil(), 0);
        // [1, {"a": [nil]}, ref 2 = [nil], ref 0 = itself]
        Check.equal("unpack", Check.unpack(x, "94 01 81 a1 61 91 c0 d4 00 02 d4 00 00"), 1);
        counts("unpacked", x, 7, 7, 1, 0, 0);
        int[] kinds = {0, 7, 2, 8, 5, 7, 0};
        for (int v = 0; v < kinds.length; v++) {
            Check.equal("kind of " + v, x.about(v, 0), kinds[v]);
        }
        int[] parts = {2, 3, 5, 1};
        for (int i = 0; i < parts.length; i++) {
            Check.equal("part(1, " + i + ")", x.part(1, i), parts[i]);
        }
        Check.equal("the map's key", x.part(3, 0), 4);
        Check.equal("the map's value", x.part(3, 1), 5);
        Check.equal("the list's value", x.part(5, 0), 6);
        readForms();
    }

    private static void readForms() {
        repacked("c0", "c0");
        repacked("c2", "c2");
        repacked("c3", "c3");
        String[] seven = {"07", "cc07", "cd0007", "ce00000007", "cf0000000000000007", "d007", "d10007",
            "d200000007", "d30000000000000007"};
        for (String form : seven) {
            repacked(form, "07");
        }
        for (String form : new String[] {"ff", "d0ff", "d1ffff", "d2ffffffff", "d3ffffffffffffffff"}) {
            repacked(form, "ff");
        }
        repacked("cfffffffffffffffff", "cfffffffffffffffff");
        repacked("ca7fc00001", "ca7fc00001");
        repacked("cbfff0000000000001", "cbfff0000000000001");
        for (String form : new String[] {"a161", "d90161", "da000161", "db0000000161"}) {
            repacked(form, "a161");
        }
        for (String form : new String[] {"c40161", "c5000161", "c60000000161"}) {
            repacked(form, "c40161");
        }
        for (String form : new String[] {"91c0", "dc0001c0", "dd00000001c0"}) {
            repacked(form, "91c0");
        }
        for (String form : new String[] {"81c0c3", "de0001c0c3", "df00000001c0c3"}) {
            repacked(form, "81c0c3");
        }
        for (String form : new String[] {"d40561", "c7010561", "c800010561", "c9000000010561"}) {
            repacked(form, "d40561");
        }
        repacked("c70005", "c70005");
        repacked("d5800102", "d5800102");
        repacked("c7047f01020304", "d67f01020304");
        repacked("c8 0008 7f 0102030405060708", "d7 7f 0102030405060708");
        repacked("c9 00000010 7f 000102030405060708090a0b0c0d0e0f", "d8 7f 000102030405060708090a0b0c0d0e0f");
        repacked("c7 04 ff 00000001", "d6 ff 00000001");
        repacked("d7 ff 0000000000000001", "d6 ff 00000001");
        repacked("c7 0c ff 00000000 0000000000000001", "d6 ff 00000001");
        repacked("c8 000c ff 00000000 0000000100000000", "d7 ff 0000000100000000");
        for (String form : new String[] {"d40000", "c7010000", "d500cc00", "c70300cd0000", "c70500ce00000000",
            "c70900cf0000000000000000", "d500d000", "c70300d10000", "c70500d200000000", "c70900d30000000000000000",
            "c800010000", "c9000000010000"}) {
            repacked("91" + form, "91d40000");
        }
    }

    private static void unpackFailed() {
        PackedGraph x = new PackedGraph();
        Check.unpack(x, "92 a2 6162 91 c0");
        x.pack(0);
        counts("before", x, 4, 3, 2, 0, 6);
        // The fault is the last byte: all that was read before must be gone again.
        faultIs(x, "93 a3 616263 82 01 02 c4 02 0102 d5 05 0102 c1", 2, 16);
        counts("after", x, 4, 3, 2, 0, 6);
        Check.equal("the next value", x.nil(), 4);
        Check.equal("the old list", Check.packed(x, 0), "92a2616291c0");
        faultIs(x, "91 d4 00 01", 5, 1);
        faultIs(x, "91 d4 00 00", 0, 0);
    }

    private static void fault() {
        PackedGraph x = new PackedGraph();
        Check.refused("fault(-1)", INDEX, () -> x.fault(-1));
        Check.refused("fault(2)", INDEX, () -> x.fault(2));
        faultIs(x, "", 1, 0);
        faultIs(x, "c0 c0", 8, 1);
        Check.feed(x, "c1");
        Check.equal("fault(0) of the latest unpack()", x.fault(0), 8);
        x.skip(0);
        x.nil();
        Check.equal("fault(1) of the latest unpack()", x.fault(1), 1);
        x.unpack();
        Check.equal("fault(0)", x.fault(0), 2);
        Check.equal("fault(1)", x.fault(1), 0);
        faultIs(x, "c0", 0, 0);
    }

    private static void faultsInOrder() {
        for (String lead : new String[] {"cc", "cd00", "ce000000", "cf00000000000000", "d0", "d100", "d2000000",
            "d300000000000000", "ca000000", "cb00000000000000", "a1", "bf" + Check.repeat("61", 30), "d9", "d901",
            "da00", "da0001", "db000000", "db00000001", "c4", "c5ff", "c500", "c6000000", "c4020a",
            "c7", "c700", "c80000", "c900000000", "d4", "d405", "d50500", "d8" + Check.repeat("05", 16),
            "d6ff000000", "dc", "dc00", "dd", "dd000000", "de00", "df000000", "d4ff", "d400", "c701ff"}) {
            faultIs(lead, 1, 0);
            faultIs("91" + lead, 1, 1);
        }
        faultIs("91", 1, 1);
        faultIs("92 c0", 1, 2);
        faultIs("81 c0", 1, 2);
        faultIs("dc 0002 c0", 1, 4);
        faultIs("dd 00001770 c0", 1, 6);
        faultIs("c1", 2, 0);
        faultIs("92 c1 c1", 2, 1);
        faultIs("91 c0 c1", 8, 2);
        faultIs("90 00 00", 8, 1);
        faultIs("c9 ffffffff 05", 1, 0);
        faultIs("db ffffffff ff", 1, 0);
        faultIs("c6 80000000 ff", 1, 0);
        // A character is wrong, but the text is not all there.
        faultIs("a2 ff", 1, 0);
        // A fault of a value counts before that of what is behind it.
        faultIs("92 a1 ff c1", 3, 2);
        faultIs("93 91 d4 00 05 c1", 5, 2);
    }

    /** Nothing behind the last byte is looked at, whatever was there before and however long the tape is. */
    private static void faultsAtTheEnd() {
        PackedGraph x = new PackedGraph();
        Check.feed(x, "91c1c1c1");
        x.end(1);
        Check.equal("skip past the end", x.skip(0), PackedGraph.NONE);
        Check.equal("unpack past the end", x.unpack(), PackedGraph.NONE);
        Check.equal("code past the end", x.fault(0), 1);
        Check.equal("place past the end", x.fault(1), 1);
        for (int n = 0; n < 260; n++) {
            String nils = "dc0200" + Check.repeat("c0", n);
            faultIs(new PackedGraph(), nils, 1, n + 3);
            for (String lead : new String[] {"cd", "d4", "c7", "c700", "c801", "dd", "da00", "ca"}) {
                PackedGraph y = new PackedGraph();
                faultIs(y, nils + lead, 1, n + 3);
                skipIsNone(y, nils + lead);
            }
            skipIsNone(new PackedGraph(), nils);
        }
    }

    private static void skipIsNone(PackedGraph x, String hex) {
        Check.feed(x, hex);
        Check.equal("skip past the end of " + hex, x.skip(0), PackedGraph.NONE);
    }

    private static void faultsOfCharacters() {
        String[] right = {"00", "7f", "c280", "dfbf", "e0a080", "ed9fbf", "ee8080", "efbfbf", "f0908080", "f48fbfbf"};
        String[] wrong = {"80", "bf", "c080", "c1bf", "c2", "c27f", "c2c0", "e09fbf", "e08080", "eda080", "edbfbf",
            "e0a0", "e0a0c0", "e0ff80", "f08fbfbf", "f4908080", "f5808080", "f7bfbfbf", "f8888080", "ff", "fe",
            "f09080", "f0908041", "f0904180", "f0419080", "e1"};
        for (String character : right) {
            String text = "41" + character + character;
            faultIs(String.format("d9%02x", text.length() / 2) + text, 0, 0, true);
        }
        for (String character : wrong) {
            String text = "41c3a9" + character;
            faultIs(String.format("%02x", 0xa0 + text.length() / 2) + text, 3, 4);
            faultIs(String.format("93c0d9%02x", text.length() / 2 + 1) + text + "41", 3, 7);
        }
    }

    private static void faultIs(String hex, int code, int place, boolean isKept) {
        PackedGraph x = new PackedGraph();
        faultIs(x, hex, code, place);
        Check.equal("values of " + hex, x.count(0), isKept ? 1 : 0);
    }

    private static void faultsOfTimes() {
        for (int n = 0; n < 20; n++) {
            boolean isRight = n == 4 || n == 8 || n == 12;
            faultIs(String.format("c7%02xff", n) + Check.repeat("00", n), isRight ? 0 : 4, 0, isRight);
        }
        faultIs("d4ff00", 4, 0);
        faultIs("d5ff0000", 4, 0);
        faultIs("d8ff" + Check.repeat("00", 16), 4, 0);
        // 999999999 times 2^34 is ee6b27fc 00000000.
        faultIs("d7ff ee6b27fc00000000", 0, 0, true);
        faultIs("d7ff ee6b27ffffffffff", 0, 0, true);
        faultIs("d7ff ee6b280000000000", 4, 0);
        faultIs("d7ff ffffffffffffffff", 4, 0);
        faultIs("c70cff 3b9ac9ff ffffffffffffffff", 0, 0, true);
        faultIs("c70cff 3b9aca00 0000000000000000", 4, 0);
        faultIs("91 c70cff ffffffff 0000000000000000", 4, 1);
        PackedGraph x = new PackedGraph();
        Check.unpack(x, "d7ff ee6b27ffffffffff");
        Check.equal("seconds", x.number(0), (1L << 34) - 1);
        Check.equal("nanos", x.about(0, 2), 999999999);
        Check.unpack(x, "d6ff ffffffff");
        Check.equal("seconds of 4 bytes", x.number(1), (1L << 32) - 1);
        Check.unpack(x, "c70cff 00000005 8000000000000000");
        Check.equal("seconds of 12 bytes", x.number(2), Long.MIN_VALUE);
        Check.equal("nanos of 12 bytes", x.about(2, 2), 5);
        counts("times", x, 3, 0, 0);
    }

    private static void faultsOfReferences() {
        for (String wrong : new String[] {"c70000", "d400c0", "d500c0c0", "d5000000", "d500cc01", "d400cc", "d400ff", "d500d0ff", "c70900cfffffffffffffffff", "c70900d3ffffffffffffffff",
            "c70900cf8000000000000000", "c70900cf0000000100000000", "c70500ca00000000", "d500d400", "d400a0", "d40090", "d40080", "d600cc000000", "d400c1", "d500cd00"}) {
            faultIs("91" + wrong, 5, 1);
        }
        faultIs("d40000", 5, 0);
        faultIs("92 d40001 90", 5, 1);
        faultIs("92 90 d40002", 5, 2);
        faultIs("92 90 d40001", 0, 0, 2);
        faultIs("92 91 d40001 c0", 0, 0, 3);
        faultIs("82 d40000 d40000 c0 90", 0, 0, 3);
        // A list of a tape before is none of this tape.
        PackedGraph x = new PackedGraph();
        Check.unpack(x, "93 90 90 90");
        faultIs(x, "91 d40001", 5, 1);
        int v = Check.unpack(x, "92 90 d40001");
        Check.equal("a reference is the list itself", x.part(v, 1), x.part(v, 0));
    }

    private static void faultIs(String hex, int code, int place, int values) {
        PackedGraph x = new PackedGraph();
        faultIs(x, hex, code, place);
        Check.equal("values of " + hex, x.count(0), values);
    }

    private static void faultsOfDepth() {
        String deep = Check.repeat("91", 24);
        faultIs(deep + "c0", 0, 0, 25);
        faultIs(deep + "90", 6, 24);
        faultIs(deep + "80", 6, 24);
        faultIs(deep + "dc00", 1, 24);
        faultIs(deep + "dcffff", 6, 24);
        faultIs(deep + "c1", 2, 24);
        faultIs(deep + "d40017", 0, 0, 24);
        faultIs(deep + "d40018", 5, 24);
        faultIs("92" + deep.substring(2) + "c0" + deep.substring(2) + "c0", 0, 0, 49);
        faultIs(Check.repeat("81c0", 24) + "90", 6, 48);
        faultIs(Check.repeat("81c0", 24) + "a0", 0, 0, 49);
    }

    private static void faultsOfRoom() {
        PackedGraph x = fullOfValues(2999);
        faultIs(x, "a1ff", 3, 1);
        faultIs(x, "91c0", 7, 1);
        faultIs(x, "92 d40000 d40000", 0, 0);
        Check.equal("all values", x.count(0), 3000);
        for (String one : new String[] {"c0", "c3", "05", "ca00000000", "cb0000000000000000", "a0", "c400", "90", "80",
            "d405ff", "d6ff00000000"}) {
            faultIs(x, one, 7, 0);
        }
        faultIs(x, "a1ff", 3, 1);
        faultIs(x, "d4ff00", 4, 0);
        faultIs(x, "d40000", 5, 0);
        faultIs(x, "c1", 2, 0);
        faultIs(x, "cc", 1, 0);
        faultIs("dc 1771", 7, 0);
        faultIs("dc 1770", 1, 3);
        faultIs("dd ffffffff", 7, 0);
        faultIs("df ffffffff", 7, 0);
        faultIs("df 80000000", 7, 0);
        faultIs("de 0bb9", 7, 0);
        faultIs("de 0bb8", 1, 3);
        faultIs("dc 1760 dc 0011", 7, 3);
        faultIs("dc 1760 dc 0010", 1, 6);
        faultIs("dc 1760 98 c0c0c0c0c0c0c0c0 99", 7, 12);
        bytesOfOneValue();
    }

    /** Only an object past its 512th call can have so many bytes. */
    private static void bytesOfOneValue() {
        PackedGraph x = new PackedGraph();
        for (int i = 0; i < 6; i++) {
            Check.feed(x, new byte[10922]);
            x.row(6);
        }
        counts("many bytes", x, 6, 0, 65532, 0);
        faultIs(x, "c405 0102030405", 7, 0);
        faultIs(x, "91 a5 6162636465", 7, 1);
        faultIs(x, "d8 05" + Check.repeat("00", 16), 7, 0);
        faultIs(x, "d6 05 01020304", 0, 0);
        faultIs(x, "a161", 7, 0);
        faultIs(x, "a1ff", 3, 1);
        faultIs(x, "93 a0 d6ff00000000 d40000", 0, 0);
        Check.feed(x, "61");
        Check.refused("row past all bytes", UNSUPPORTED, () -> x.row(5));
        Check.refused("row of bytes past all bytes", UNSUPPORTED, () -> x.row(6));
        Check.refused("extension past all bytes", UNSUPPORTED, () -> x.extension(5));
        counts("the tape stays", x, 10, 3, 65536, 1);
        x.end(0);
        Check.equal("a text without bytes", x.row(5), 10);
        Check.equal("an extension without bytes", x.extension(5), 11);
        Check.equal("a nil", x.nil(), 12);
        Check.equal("a truth", x.truth(true), 13);
        Check.equal("an integer", x.integer(5, false), 14);
        Check.equal("a float", x.real(5, false), 15);
        Check.equal("a time", x.time(5, 5), 16);
        Check.equal("a list", x.group(7), 17);
        faultIs(x, "94 c0 05 90 c400", 0, 0);
    }

    private static PackedGraph fullOfValues(int n) {
        PackedGraph x = new PackedGraph();
        Check.unpack(x, String.format("dc%04x", n - 1) + Check.repeat("c0", n - 1));
        Check.equal("values made", x.count(0), n);
        return x;
    }

    private static void skip() {
        PackedGraph x = new PackedGraph();
        Check.refused("skip(0) of nothing", INDEX, () -> x.skip(0));
        Check.feed(x, "93 a1 ff d400c1 c701ff00 c1 92 c0 c1 cc 01 d9 05 00");
        Check.refused("skip(-1)", INDEX, () -> x.skip(-1));
        Check.refused("skip(19)", INDEX, () -> x.skip(19));
        Check.equal("skip(0)", x.skip(0), 10);
        Check.equal("skip(1)", x.skip(1), 3);
        Check.equal("skip(3)", x.skip(3), 6);
        Check.equal("skip(6)", x.skip(6), 10);
        Check.equal("skip(10): c1", x.skip(10), PackedGraph.NONE);
        Check.equal("skip(11): c1 within", x.skip(11), PackedGraph.NONE);
        Check.equal("skip(12)", x.skip(12), 13);
        Check.equal("skip(14)", x.skip(14), 16);
        Check.equal("skip(16): not all there", x.skip(16), PackedGraph.NONE);
        Check.equal("skip(17)", x.skip(17), 18);
        Check.equal("skip(18)", x.skip(18), 19);
        Check.equal("skip leaves the tape", x.count(3), 19);
        Check.equal("skip finds no fault", x.fault(0), 0);
        skipIs(Check.repeat("91", 100) + "c0", 101);
        skipIs(Check.repeat("91", 100), PackedGraph.NONE);
        skipIs("82 01 02 03 04 05", 5);
        skipIs("82 01 02 03", PackedGraph.NONE);
        skipIs("de 0001 01 02", 5);
        skipIs("df 00000001 01 02 03", 7);
        skipIs("dc 0002 90 90 90", 5);
        skipIs("dd 00000000", 5);
        skipIs("dd ffffffff c0", PackedGraph.NONE);
        skipIs("df ffffffff c0", PackedGraph.NONE);
        skipIs("dd 0000", PackedGraph.NONE);
        skipIs("c9 ffffffff 05 00", PackedGraph.NONE);
        skipIs("c8 0002 05 00 00 00", 6);
        skipIs("c7 00 05", 3);
        skipIs("c7 00", PackedGraph.NONE);
        skipIs("d4 05", PackedGraph.NONE);
        skipIs("d8 05" + Check.repeat("c1", 17), 18);
        skipIs("db 00000002 c1 c1 c1", 7);
        skipIs("cb 0000000000000000", 9);
        skipIs("cf 00000000000000", PackedGraph.NONE);
        skipIs("e0", 1);
        skipIs("7f", 1);
    }

    private static void skipIs(String hex, int due) {
        PackedGraph x = new PackedGraph();
        Check.feed(x, hex);
        Check.equal("skip of " + hex, x.skip(0), due);
        Check.feed(x, hex);
        int size = x.count(3) / 2;
        Check.equal("skip of the second " + hex, x.skip(size), due == PackedGraph.NONE ? due : due + size);
    }

    private static void pack() {
        PackedGraph x = new PackedGraph();
        Check.equal("nil", Check.packed(x, x.nil()), "c0");
        Check.equal("false", Check.packed(x, x.truth(false)), "c2");
        Check.equal("true", Check.packed(x, x.truth(true)), "c3");
        Check.refused("pack(3)", INDEX, () -> x.pack(3));
        Check.refused("pack(-1)", INDEX, () -> x.pack(-1));
        Check.equal("the out stays", Check.out(x), "c3");
        long[] numbers = {0, 127, 128, 255, 256, 65535, 65536, 4294967295L, 4294967296L, Long.MAX_VALUE, -1, -32, -33,
            -128, -129, -32768, -32769, -2147483648L, -2147483649L, Long.MIN_VALUE};
        String[] forms = {"00", "7f", "cc80", "ccff", "cd0100", "cdffff", "ce00010000", "ceffffffff",
            "cf0000000100000000", "cf7fffffffffffffff", "ff", "e0", "d0df", "d080", "d1ff7f", "d18000", "d2ffff7fff",
            "d280000000", "d3ffffffff7fffffff", "d38000000000000000"};
        for (int i = 0; i < numbers.length; i++) {
            int v = x.integer(numbers[i], i % 2 == 0 && numbers[i] >= 0);
            Check.equal("packed " + numbers[i], Check.packed(x, v), forms[i]);
            Check.equal("about(.., 3) of " + numbers[i], x.about(v, 3), forms[i].length() / 2);
        }
        Check.equal("2^63", Check.packed(x, x.integer(Long.MIN_VALUE, true)), "cf8000000000000000");
        Check.equal("2^64 - 1", Check.packed(x, x.integer(-1, true)), "cfffffffffffffffff");
        packRows();
        packGroups();
    }

    private static void packRows() {
        for (int n : new int[] {0, 1, 2, 3, 4, 5, 8, 15, 16, 17, 31, 32, 255, 256, 1000}) {
            PackedGraph x = new PackedGraph();
            String bytes = Check.repeat("61", n);
            Check.feed(x, bytes);
            x.row(5);
            Check.feed(x, bytes);
            x.row(6);
            Check.feed(x, bytes);
            x.extension(-2);
            String length = n < 256 ? String.format("%02x", n) : String.format("%04x", n);
            Check.equal("text of " + n, Check.packed(x, 0),
                (n < 32 ? String.format("%02x", 0xa0 + n) : (n < 256 ? "d9" : "da") + length) + bytes);
            Check.equal("bytes of " + n, Check.packed(x, 1), (n < 256 ? "c4" : "c5") + length + bytes);
            int fixed = n == 1 ? 0xd4 : n == 2 ? 0xd5 : n == 4 ? 0xd6 : n == 8 ? 0xd7 : n == 16 ? 0xd8 : 0;
            Check.equal("extension of " + n, Check.packed(x, 2),
                (fixed != 0 ? Integer.toHexString(fixed) : (n < 256 ? "c7" : "c8") + length) + "fe" + bytes);
            for (int v = 0; v < 3; v++) {
                Check.equal("about(" + v + ", 3) of " + n, x.about(v, 3), x.pack(v));
            }
        }
    }

    private static void packGroups() {
        for (int n : new int[] {0, 1, 15, 16, 100, 256, 300}) {
            PackedGraph x = new PackedGraph();
            int nil = x.nil();
            int list = x.group(7);
            int map = x.group(8);
            for (int i = 0; i < n; i++) {
                x.add(list, nil);
                x.put(map, nil, nil);
            }
            Check.equal("list of " + n, Check.packed(x, list),
                (n < 16 ? String.format("%02x", 0x90 + n) : String.format("dc%04x", n)) + Check.repeat("c0", n));
            Check.equal("map of " + n, Check.packed(x, map),
                (n < 16 ? String.format("%02x", 0x80 + n) : String.format("de%04x", n)) + Check.repeat("c0c0", n));
        }
    }

    private static void packReferences() {
        PackedGraph x = new PackedGraph();
        int itself = x.group(7);
        x.add(itself, itself);
        Check.equal("a list in itself", Check.packed(x, itself), "91d40000");
        int map = x.group(8);
        int empty = x.group(7);
        x.put(map, map, empty);
        x.put(map, empty, itself);
        x.put(map, itself, map);
        Check.equal("come to in turn", Check.packed(x, map), "83d4000090d4000191d40002d40002d40000");
        Check.equal("packed again the same", Check.packed(x, map), "83d4000090d4000191d40002d40002d40000");
        Check.equal("from another", Check.packed(x, itself), "91d40000");
        int two = x.group(7);
        int text = Check.unpack(x, "a161");
        x.add(two, text);
        x.add(two, text);
        Check.equal("no text is referred to", Check.packed(x, two), "92a161a161");
        manyReferences();
    }

    /** The forms of the n of a reference, and that only what is no reference counts in the turn. */
    private static void manyReferences() {
        PackedGraph x = new PackedGraph();
        int n = 300;
        int all = Check.unpack(x, "dc012c" + Check.repeat("90", n));
        x.add(all, x.part(all, 0));
        x.add(all, x.part(all, 126));
        x.add(all, x.part(all, 127));
        x.add(all, x.part(all, 254));
        x.add(all, x.part(all, 255));
        x.add(all, all);
        x.add(all, x.part(all, 299));
        Check.equal("references", Check.packed(x, all), "dc0133" + Check.repeat("90", n)
            + "d40001" + "d4007f" + "d500cc80" + "d500ccff" + "c70300cd0100" + "d40000" + "c70300cd012c");
    }

    private static void packLimits() {
        PackedGraph x = new PackedGraph();
        Check.unpack(x, Check.repeat("91", 24) + "c0");
        Check.equal("24 open ones", x.pack(0), 25);
        int over = x.group(8);
        x.put(over, 24, 0);
        Check.refused("a list in 24 open ones", UNSUPPORTED, () -> x.pack(over));
        Check.equal("the out is empty", x.count(4), 0);
        Check.equal("packed again", x.pack(0), 25);
        // What was come to in a packing that failed is packed whole in the next.
        Check.equal("within, packed again", x.pack(1), 24);
        int ahead = x.group(7);
        x.add(ahead, 23);
        x.add(ahead, 0);
        // The innermost list is come to first, so that it is only referred to in 24 open ones.
        Check.equal("a reference in 24 open ones", x.pack(ahead), 1 + 2 + 23 + 3);
        packToTheLastByte();
    }

    private static void packToTheLastByte() {
        PackedGraph x = new PackedGraph();
        int list = listOfRows(x, 1018);
        Check.equal("to the last byte", x.pack(list), 65536);
        Check.equal("the last byte", x.shown(65535), 0);
        Check.equal("same to the last byte", x.same(list, list), true);
        PackedGraph y = new PackedGraph();
        int longer = listOfRows(y, 1019);
        int nil = y.nil();
        y.pack(nil);
        Check.refused("same(0, longer)", UNSUPPORTED, () -> y.same(nil, longer));
        Check.refused("same(longer, 0)", UNSUPPORTED, () -> y.same(longer, nil));
        Check.equal("the out stays", y.count(4), 1);
        Check.refused("one byte more", UNSUPPORTED, () -> y.pack(longer));
        Check.equal("the out is empty", y.count(4), 0);
        Check.refused("shown of the empty out", INDEX, () -> y.shown(0));
    }

    /** A head of 3 bytes, 63 times 1024, and three more than n. */
    private static int listOfRows(PackedGraph x, int n) {
        Check.feed(x, new byte[1021]);
        int row = x.row(6);
        int list = x.group(7);
        for (int i = 0; i < 63; i++) {
            x.add(list, row);
        }
        Check.feed(x, new byte[n]);
        x.add(list, x.row(6));
        return list;
    }

    private static void shown() {
        PackedGraph x = new PackedGraph();
        x.pack(x.integer(-32769, false));
        int[] due = {0xd2, 0xff, 0xff, 0x7f, 0xff};
        for (int i = 0; i < 5; i++) {
            Check.equal("shown(" + i + ")", x.shown(i), due[i]);
        }
        Check.refused("shown(-1)", INDEX, () -> x.shown(-1));
        Check.refused("shown(5)", INDEX, () -> x.shown(5));
        x.pack(x.nil());
        Check.refused("shown(1)", INDEX, () -> x.shown(1));
    }

    private static void nilAndTruth() {
        PackedGraph x = new PackedGraph();
        Check.equal("nil", x.nil(), 0);
        Check.equal("truth", x.truth(true), 1);
        Check.equal("truth", x.truth(false), 2);
        int[] kinds = {0, 1, 1};
        int[] truths = {0, 1, 0};
        for (int v = 0; v < 3; v++) {
            Check.equal("kind", x.about(v, 0), kinds[v]);
            Check.equal("length", x.about(v, 1), 0);
            Check.equal("truth", x.about(v, 2), truths[v]);
            Check.equal("packed", x.about(v, 3), 1);
        }
    }

    private static void integer() {
        PackedGraph x = new PackedGraph();
        Check.equal("integer", x.integer(-5, false), 0);
        Check.equal("its number", x.number(0), -5L);
        Check.equal("high above 0", x.number(x.integer(5, true)), 5L);
        int high = x.integer(-5, true);
        Check.refused("2^64 - 5", ARITHMETIC, () -> x.number(high));
        Check.equal("packed", Check.packed(x, high), "cffffffffffffffffb");
        Check.equal("kind", x.about(high, 0), 2);
        Check.equal("no detail", x.about(high, 2), 0);
        Check.equal("not the same", x.same(0, high), false);
    }

    private static void real() {
        PackedGraph x = new PackedGraph();
        Check.equal("float", x.real(0x123456789abcdef0L, false), 0);
        Check.equal("double", x.real(0x923456789abcdef0L, true), 1);
        Check.equal("kind of a float", x.about(0, 0), 3);
        Check.equal("kind of a double", x.about(1, 0), 4);
        Check.equal("bits of a float", x.number(0), 0x9abcdef0L);
        Check.equal("bits of a double", x.number(1), 0x923456789abcdef0L);
        Check.equal("packed float", Check.packed(x, 0), "ca9abcdef0");
        Check.equal("packed double", Check.packed(x, 1), "cb923456789abcdef0");
        Check.equal("no detail of a float", x.about(0, 2), 0);
        Check.equal("no detail of a double", x.about(1, 2), 0);
    }

    private static void row() {
        PackedGraph x = new PackedGraph();
        Check.feed(x, "41ff");
        for (int kind : new int[] {-1, 0, 4, 7, 9, 10}) {
            Check.refused("row(" + kind + ")", ARGUMENT, () -> x.row(kind));
        }
        Check.refused("row(5) of no text", ARGUMENT, () -> x.row(5));
        counts("all stays", x, 0, 0, 0, 2);
        Check.equal("bytes", x.row(6), 0);
        counts("bytes", x, 1, 0, 2, 0);
        Check.equal("empty text", x.row(5), 1);
        Check.equal("empty bytes", x.row(6), 2);
        Check.feed(x, "e282ac");
        Check.equal("text", x.row(5), 3);
        Check.equal("bytes of a text", x.about(3, 1), 3);
        Check.equal("kind", x.about(3, 0), 5);
        Check.equal("no type", x.about(3, 2), 0);
        Check.equal("byte 1", x.part(3, 1), 0x82);
        for (String wrong : new String[] {"eda080", "c080", "f4908080", "e282", "80"}) {
            Check.feed(x, wrong);
            Check.refused("row(5) of " + wrong, ARGUMENT, () -> x.row(5));
            x.end(0);
        }
    }

    private static void extension() {
        PackedGraph x = new PackedGraph();
        Check.feed(x, "0102ff");
        for (int type : new int[] {-129, -1, 0, 128, 256, Integer.MIN_VALUE}) {
            Check.refused("extension(" + type + ")", ARGUMENT, () -> x.extension(type));
        }
        counts("all stays", x, 0, 0, 0, 3);
        Check.equal("extension", x.extension(-128), 0);
        counts("extension", x, 1, 0, 3, 0);
        Check.equal("kind", x.about(0, 0), 9);
        Check.equal("bytes", x.about(0, 1), 3);
        Check.equal("type", x.about(0, 2), -128);
        Check.equal("packed", Check.packed(x, 0), "c703800102ff");
        Check.equal("without bytes", Check.packed(x, x.extension(127)), "c7007f");
        Check.equal("type 1", x.about(x.extension(1), 2), 1);
        Check.equal("type -2", x.about(x.extension(-2), 2), -2);
        Check.equal("read again", x.about(Check.unpack(x, "d48000"), 2), -128);
    }

    private static void time() {
        long[] seconds = {0, 4294967295L, 4294967296L, 0, 17179869183L, 17179869184L, 17179869184L, -1, -1,
            Long.MIN_VALUE, Long.MAX_VALUE};
        int[] nanos = {0, 0, 0, 1, 999999999, 0, 999999999, 0, 1, 0, 5};
        String[] forms = {"d6ff00000000", "d6ffffffffff", "d7ff0000000100000000", "d7ff0000000400000000",
            "d7ffee6b27ffffffffff", "c70cff000000000000000400000000", "c70cff3b9ac9ff0000000400000000",
            "c70cff00000000ffffffffffffffff", "c70cff00000001ffffffffffffffff", "c70cff000000008000000000000000",
            "c70cff000000057fffffffffffffff"};
        PackedGraph x = new PackedGraph();
        for (int i = 0; i < seconds.length; i++) {
            Check.equal("time", x.time(seconds[i], nanos[i]), i);
            Check.equal("seconds", x.number(i), seconds[i]);
            Check.equal("nanos", x.about(i, 2), nanos[i]);
            Check.equal("kind", x.about(i, 0), 10);
            Check.equal("length", x.about(i, 1), 0);
            Check.equal("packed time", Check.packed(x, i), forms[i]);
            Check.equal("packed time's length", x.about(i, 3), forms[i].length() / 2);
        }
        Check.refused("nanos below 0", ARGUMENT, () -> x.time(0, -1));
        Check.refused("a second of nanos", ARGUMENT, () -> x.time(0, 1000000000));
        Check.equal("none was made", x.count(0), seconds.length);
    }

    private static void group() {
        PackedGraph x = new PackedGraph();
        for (int kind : new int[] {-1, 0, 5, 6, 9}) {
            Check.refused("group(" + kind + ")", ARGUMENT, () -> x.group(kind));
        }
        Check.equal("list", x.group(7), 0);
        Check.equal("map", x.group(8), 1);
        for (int v = 0; v < 2; v++) {
            Check.equal("kind", x.about(v, 0), 7 + v);
            Check.equal("length", x.about(v, 1), 0);
            Check.equal("no detail", x.about(v, 2), 0);
            Check.equal("no packed length", x.about(v, 3), 0);
        }
    }

    private static void add() {
        PackedGraph x = new PackedGraph();
        int nil = x.nil();
        int list = x.group(7);
        int map = x.group(8);
        Check.equal("add", x.add(list, nil), 1);
        Check.equal("add itself", x.add(list, list), 2);
        Check.equal("add a map", x.add(list, map), 3);
        for (int i = 0; i < 3; i++) {
            Check.equal("value " + i, x.part(list, i), i);
        }
        Check.equal("length", x.about(list, 1), 3);
        counts("added", x, 3, 3);
        Check.refused("add(3, 0)", INDEX, () -> x.add(3, 0));
        Check.refused("add(-1, 0)", INDEX, () -> x.add(-1, 0));
        Check.refused("add to a list of no value", INDEX, () -> x.add(list, 3));
        Check.refused("no value before no list", INDEX, () -> x.add(nil, -1));
        Check.refused("add to a nil", ARGUMENT, () -> x.add(nil, nil));
        Check.refused("add to a map", ARGUMENT, () -> x.add(map, nil));
        counts("nothing changed", x, 3, 3);
        PackedGraph y = fullOfParts();
        Check.equal("the last value", y.add(0, 1), 3000);
        Check.refused("one more", UNSUPPORTED, () -> y.add(0, 1));
        int late = y.nil();
        Check.refused("no list before one more", ARGUMENT, () -> y.add(late, 1));
        Check.equal("all values in lists", y.count(1), 6000);
        Check.equal("length stays", y.about(0, 1), 3000);
        Check.equal("of a list with values", Check.unpack(y, "91c0"), PackedGraph.NONE);
        Check.equal("fault 7", y.fault(0), 7);
        Check.equal("an empty list", y.about(Check.unpack(y, "90"), 0), 7);
    }

    /** 5999 values in lists, all but one in list 0 and the last of all values. */
    private static PackedGraph fullOfParts() {
        PackedGraph x = new PackedGraph();
        Check.unpack(x, "dc0bb7" + "90" + Check.repeat("d40001", 2998));
        Check.unpack(x, "dc0bb8" + "90" + Check.repeat("d40001", 2999));
        counts("parts", x, 4, 5999);
        return x;
    }

    private static void put() {
        PackedGraph x = new PackedGraph();
        int nil = x.nil();
        int list = x.group(7);
        int map = x.group(8);
        Check.equal("put", x.put(map, nil, list), 1);
        Check.equal("put the same key", x.put(map, nil, map), 2);
        int[] due = {nil, list, nil, map};
        for (int i = 0; i < 4; i++) {
            Check.equal("part " + i, x.part(map, i), due[i]);
        }
        Check.equal("pairs", x.about(map, 1), 2);
        counts("put", x, 3, 4);
        Check.refused("put(3, ..)", INDEX, () -> x.put(3, nil, nil));
        Check.refused("put(-1, ..)", INDEX, () -> x.put(-1, nil, nil));
        Check.refused("no key", INDEX, () -> x.put(map, 3, nil));
        Check.refused("no value", INDEX, () -> x.put(map, nil, -1));
        Check.refused("no value before no map", INDEX, () -> x.put(list, nil, 3));
        Check.refused("put to a nil", ARGUMENT, () -> x.put(nil, nil, nil));
        Check.refused("put to a list", ARGUMENT, () -> x.put(list, nil, nil));
        counts("nothing changed", x, 3, 4);
        PackedGraph y = fullOfParts();
        int late = y.group(8);
        Check.refused("one value is left for two", UNSUPPORTED, () -> y.put(late, 1, 1));
        counts("nothing changed", y, 5, 5999);
        Check.equal("no pair", y.about(late, 1), 0);
        PackedGraph z = new PackedGraph();
        Check.unpack(z, "dc176e" + "90" + Check.repeat("d40001", 5997));
        int map2 = z.group(8);
        Check.equal("the last two", z.put(map2, 0, 1), 1);
        Check.equal("all values in maps", z.count(1), 6000);
        Check.refused("two more", UNSUPPORTED, () -> z.put(map2, 0, 1));
    }

    private static void about() {
        PackedGraph x = new PackedGraph();
        Check.unpack(x, "9a c0 c3 cc80 ca00000000 cb0000000000000000 a26162 c4020102 8101d40000 d5050102 d6ff00000009");
        int[] kinds = {7, 0, 1, 2, 3, 4, 5, 6, 8, 2, 9, 10};
        int[] lengths = {10, 0, 0, 0, 0, 0, 2, 2, 1, 0, 2, 0};
        int[] details = {0, 0, 1, 0, 0, 0, 0, 0, 0, 0, 5, 0};
        int[] packed = {0, 1, 1, 2, 5, 9, 3, 4, 0, 1, 4, 6};
        for (int v = 0; v < kinds.length; v++) {
            Check.equal("about(" + v + ", 0)", x.about(v, 0), kinds[v]);
            Check.equal("about(" + v + ", 1)", x.about(v, 1), lengths[v]);
            Check.equal("about(" + v + ", 2)", x.about(v, 2), details[v]);
            Check.equal("about(" + v + ", 3)", x.about(v, 3), packed[v]);
        }
        Check.equal("the out stays", x.count(4), 0);
        int behind = Check.unpack(x, "93 d405ff a161 c40161");
        Check.equal("a text behind an extension", x.about(behind + 2, 2), 0);
        Check.equal("bytes behind an extension", x.about(behind + 3, 2), 0);
        Check.refused("about(0, -1)", ARGUMENT, () -> x.about(0, -1));
        Check.refused("about(0, 4)", ARGUMENT, () -> x.about(0, 4));
        Check.refused("about(16, 0)", INDEX, () -> x.about(16, 0));
        Check.refused("no value before no what", INDEX, () -> x.about(-1, 4));
        PackedGraph y = new PackedGraph();
        zeros(y, 65533);
        Check.equal("65536 bytes packed", y.about(y.row(6), 3), 65536);
        y.clear();
        zeros(y, 65534);
        Check.equal("more than 65536 bytes packed", y.about(y.row(6), 3), 0);
        Check.refused("not to be packed", UNSUPPORTED, () -> y.pack(0));
        y.clear();
        zeros(y, 65536);
        Check.equal("65536 bytes", y.about(y.extension(5), 3), 0);
    }

    /** So many that the last twenty only fit when some before them go. */
    private static void zeros(PackedGraph x, int n) {
        x.end(0);
        Check.feed(x, new byte[65516]);
        x.feed(0, 0, 0, 0, 0);
        x.end(n);
    }

    private static void number() {
        PackedGraph x = new PackedGraph();
        Check.unpack(x, "9a c0 c3 07 ca80000001 cb8000000000000001 a26162 c4020102 80 d5050102 d6ff80000000");
        long[] due = {0, 0, 0, 7, 0x80000001L, 0x8000000000000001L, 0, 0, 0, 0, 0x80000000L};
        for (int v = 0; v < due.length; v++) {
            int of = v;
            if (due[v] != 0) {
                Check.equal("number(" + v + ")", x.number(v), due[v]);
            } else {
                Check.refused("number(" + v + ")", ARGUMENT, () -> x.number(of));
            }
        }
        Check.refused("number(11)", INDEX, () -> x.number(11));
        Check.refused("number(-1)", INDEX, () -> x.number(-1));
        int high = Check.unpack(x, "cf8000000000000000");
        Check.refused("2^63", ARITHMETIC, () -> x.number(high));
        Check.equal("2^63 - 1", x.number(Check.unpack(x, "cf7fffffffffffffff")), Long.MAX_VALUE);
        Check.equal("-2^63", x.number(Check.unpack(x, "d38000000000000000")), Long.MIN_VALUE);
    }

    private static void part() {
        PackedGraph x = new PackedGraph();
        Check.unpack(x, "95 a2c3a9 c402ff00 82 01 02 03 04 d505fe7f c0");
        int[][] due = {{1, 2, 3, 8, 9}, {0xc3, 0xa9}, {0xff, 0}, {4, 5, 6, 7}, {}, {}, {}, {}, {0xfe, 0x7f}, {}};
        for (int v = 0; v < due.length; v++) {
            int of = v;
            for (int i = 0; i < due[v].length; i++) {
                Check.equal("part(" + v + ", " + i + ")", x.part(v, i), due[v][i]);
            }
            Check.refused("part(" + v + ", behind)", INDEX, () -> x.part(of, due[of].length));
            Check.refused("part(" + v + ", -1)", INDEX, () -> x.part(of, -1));
        }
        Check.refused("part(10, 0)", INDEX, () -> x.part(10, 0));
        Check.refused("part(-1, 0)", INDEX, () -> x.part(-1, 0));
        Check.refused("part of a time", INDEX, () -> x.part(x.time(5, 5), 0));
        int longer = Check.unpack(x, "dc0028" + Check.repeat("c0", 40));
        Check.refused("part past a long list", INDEX, () -> x.part(longer, 40));
    }

    private static void same() {
        PackedGraph x = new PackedGraph();
        String[] forms = {"c0", "c2", "c3", "00", "ff", "cfffffffffffffffff", "ca00000000", "cb0000000000000000", "a0",
            "c400", "90", "80", "c70005", "c70006", "d6ff00000000", "91c0", "81c0c0", "a161", "a162", "91d40000",
            "929090", "9290d40001", "92c0c0"};
        for (String form : forms) {
            Check.unpack(x, form);
        }
        int[] roots = new int[forms.length];
        for (int i = 0; i < forms.length; i++) {
            roots[i] = Check.unpack(x, forms[i]);
        }
        x.pack(0);
        for (int i = 0; i < forms.length; i++) {
            for (int j = 0; j < forms.length; j++) {
                Check.equal("same of " + forms[i] + " and " + forms[j], x.same(roots[i], roots[j]), i == j);
            }
        }
        Check.equal("two nils", x.same(0, roots[0]), true);
        Check.equal("two lists of one", x.same(Check.unpack(x, "dc000191c0"), Check.unpack(x, "9191c0")), true);
        Check.equal("two forms of a number", x.same(Check.unpack(x, "cd0005"), Check.unpack(x, "05")), true);
        Check.equal("a float and a double", x.same(x.real(0, false), x.real(0, true)), false);
        Check.equal("the out stays", Check.out(x), "c0");
        int values = x.count(0);
        Check.refused("same(.., behind)", INDEX, () -> x.same(0, values));
        Check.refused("same(-1, ..)", INDEX, () -> x.same(-1, 0));
        int deep = Check.unpack(x, Check.repeat("91", 24) + "c0");
        int deeper = x.group(7);
        x.add(deeper, deep);
        Check.refused("same(deeper, 0)", UNSUPPORTED, () -> x.same(deeper, 0));
        Check.refused("same(0, deeper)", UNSUPPORTED, () -> x.same(0, deeper));
        Check.refused("same(deeper, deeper)", UNSUPPORTED, () -> x.same(deeper, deeper));
        Check.refused("no value before too deep", INDEX, () -> x.same(deeper, -1));
        Check.equal("same(deep, deep)", x.same(deep, deep), true);
        Check.equal("the out stays", Check.out(x), "c0");
    }

    private static void find() {
        PackedGraph x = new PackedGraph();
        int map = Check.unpack(x, "86 01 a130 a161 a131 01 a132 9105 a133 91d40002 a134 c40161 a135");
        x.pack(x.nil());
        String[] keys = {"cc01", "d90161", "dc000105", "c5000161", "02", "a162", "9106", "90", "c0", "d40561"};
        String[] due = {"30", "31", "33", "35", "", "", "", "", "", ""};
        for (int i = 0; i < keys.length; i++) {
            int found = x.find(map, Check.unpack(x, keys[i]));
            String shown = found == PackedGraph.NONE ? "" : Integer.toHexString(x.part(found, 0));
            Check.equal("find of " + keys[i], shown, due[i]);
        }
        Check.equal("the out stays", Check.out(x), "c0");
        Check.equal("a key in itself", x.find(map, Check.unpack(x, "91d40000")) > 0, true);
        Check.equal("in an empty map", x.find(x.group(8), 0), PackedGraph.NONE);
        int values = x.count(0);
        Check.refused("find(behind, ..)", INDEX, () -> x.find(values, 0));
        Check.refused("find(.., -1)", INDEX, () -> x.find(map, -1));
        Check.refused("no key before no map", INDEX, () -> x.find(1, -1));
        Check.refused("find in an integer", ARGUMENT, () -> x.find(1, 1));
        int list = x.group(7);
        x.add(list, 1);
        x.add(list, 1);
        Check.refused("find in a list", ARGUMENT, () -> x.find(list, 1));
    }

    private static void findUnpackable() {
        PackedGraph x = new PackedGraph();
        int deep = Check.unpack(x, Check.repeat("91", 24) + "c0");
        int deeper = x.group(7);
        x.add(deeper, deep);
        int map = x.group(8);
        int one = x.integer(1, false);
        int two = x.integer(2, false);
        x.put(map, deeper, one);
        x.put(map, deep, two);
        Check.equal("a key that can be packed", x.find(map, deep), two);
        Check.equal("a key behind one that cannot", x.find(map, Check.unpack(x, Check.repeat("91", 24) + "c0")), two);
        Check.refused("a value that cannot", UNSUPPORTED, () -> x.find(map, deeper));
        Check.refused("a value that cannot, in no map", ARGUMENT, () -> x.find(deep, deeper));
        Check.refused("a value that cannot, in an empty map", UNSUPPORTED, () -> x.find(x.group(8), deeper));
        Check.equal("none", x.find(map, one), PackedGraph.NONE);
    }

    private static void count() {
        PackedGraph x = new PackedGraph();
        Check.unpack(x, "94 a26162 c403010203 81 c0 c0 c7010500");
        Check.feed(x, "00000000000000");
        x.pack(0);
        counts("count", x, 7, 6, 6, 7, 15);
        Check.refused("count(-1)", ARGUMENT, () -> x.count(-1));
        Check.refused("count(5)", ARGUMENT, () -> x.count(5));
        x.pack(3);
        Check.equal("count(4)", x.count(4), 3);
    }

    private static void clear() {
        PackedGraph x = new PackedGraph();
        Check.equal("clear of nothing", x.clear(), 0);
        Check.unpack(x, "92 a26162 90");
        x.pack(0);
        Check.unpack(x, "c0c0");
        Check.feed(x, "c1c1");
        Check.equal("clear", x.clear(), 3);
        counts("cleared", x, 0, 0, 0, 2, 5);
        Check.equal("the out stays", Check.out(x), "92a2616290");
        Check.equal("fault stays", x.fault(0), 8);
        Check.equal("place stays", x.fault(1), 1);
        Check.refused("about(0, 0)", INDEX, () -> x.about(0, 0));
        Check.equal("bytes", x.row(6), 0);
        Check.equal("clear again", x.clear(), 1);
        Check.equal("and again", x.clear(), 0);
        Check.equal("room again", Check.unpack(x, "dc0bb7" + Check.repeat("c0", 2999)), 0);
        Check.equal("clear all", x.clear(), 3000);
    }

    private static void roomForValues() {
        PackedGraph x = fullOfValues(3000);
        Check.feed(x, "61");
        Check.refused("nil", UNSUPPORTED, () -> x.nil());
        Check.refused("truth", UNSUPPORTED, () -> x.truth(true));
        Check.refused("integer", UNSUPPORTED, () -> x.integer(1, false));
        Check.refused("float", UNSUPPORTED, () -> x.real(1, false));
        Check.refused("double", UNSUPPORTED, () -> x.real(1, true));
        Check.refused("text", UNSUPPORTED, () -> x.row(5));
        Check.refused("bytes", UNSUPPORTED, () -> x.row(6));
        Check.refused("extension", UNSUPPORTED, () -> x.extension(1));
        Check.refused("time", UNSUPPORTED, () -> x.time(1, 1));
        Check.refused("list", UNSUPPORTED, () -> x.group(7));
        Check.refused("map", UNSUPPORTED, () -> x.group(8));
        Check.refused("no kind of row", ARGUMENT, () -> x.row(7));
        Check.refused("no type", ARGUMENT, () -> x.extension(0));
        Check.refused("no nanos", ARGUMENT, () -> x.time(1, -1));
        Check.refused("no kind of group", ARGUMENT, () -> x.group(9));
        counts("all stays", x, 3000, 2999, 0, 1);
        x.end(0);
        Check.feed(x, "ff");
        Check.refused("no text", ARGUMENT, () -> x.row(5));
        PackedGraph y = fullOfValues(2999);
        Check.equal("the last", y.nil(), 2999);
        Check.refused("one more", UNSUPPORTED, () -> y.nil());
        Check.equal("the last packed", y.pack(2999), 1);
    }
}
