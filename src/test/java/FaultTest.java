import java.util.ArrayList;
import java.util.List;

/** The faults 1 to 8 and their places, which counts first, and where a packed value ends. */
public final class FaultTest {
    /** One of each form, the shortest and the longest of those that differ by their lead byte alone. */
    private static final String[] FORMS = {"c0", "c2", "c3", "00", "7f", "e0", "ff", "cc01", "cd0001", "ce00000001",
        "cf0000000000000001", "d001", "d10001", "d200000001", "d30000000000000001", "ca00000001",
        "cb0000000000000001", "a0", "a161", "bf" + Check.repeat("61", 31), "d900", "d90161", "da000161",
        "db0000000161", "c400", "c40161", "c5000161", "c60000000161", "d40561", "d5056161", "d60561616161",
        "d705" + Check.repeat("61", 8), "d805" + Check.repeat("61", 16), "c70005", "c7010561", "c800010561",
        "c9000000010561", "d6ff00000001", "d7ff0000000000000001", "c70cff000000000000000000000001"};
    private static final String[] GROUPS = {"90", "91c0", "9f" + Check.repeat("c0", 15), "80", "81c0c0",
        "8f" + Check.repeat("c0", 30), "dc0000", "dc0002c0c0", "dd00000000", "dd00000002c0c0", "de0000",
        "de0001c0c0", "df00000000", "df00000001c0c0"};

    public static void main(String[] args) {
        leads();
        missingBytes();
        missingValues();
        missingLengths();
        missingInARowThatIsFull();
        leadOfNone();
        leftBytes();
        firstOfTheTape();
        firstOfOneValue();
        firstOfAGroup();
        references();
        wrongReferences();
        referencesToWhatBegan();
        referencesOfOtherTapes();
        numbersInOrder();
        sameForms();
        latestFault();
        skips();
        skipsOfGroups();
        skipsNone();
        Check.close("FaultTest");
    }

    private static void is(String hex, int code, int place) {
        String what = "unpack of " + (hex.length() > 50 ? hex.substring(0, 50) + ".." : hex);
        Twin.faults(what, PackedGraph::new, hex, code, place);
        Twin.faults(what + " behind other values", FaultTest::withValues, hex, code, place);
    }

    private static void isRead(String hex, int values) {
        String what = "unpack of " + (hex.length() > 50 ? hex.substring(0, 50) + ".." : hex);
        Twin.reads(what, PackedGraph::new, hex, values);
        Twin.reads(what + " behind other values", FaultTest::withValues, hex, values);
    }

    private static PackedGraph withValues() {
        PackedGraph x = new PackedGraph();
        Check.unpack(x, "93 a161 81c0d40000 90");
        x.pack(0);
        return x;
    }

    private static int length(String hex) {
        return hex.replace(" ", "").length() / 2;
    }

    private static String prefix(String hex, int n) {
        return hex.replace(" ", "").substring(0, 2 * n);
    }

    /** Each of the 256 lead bytes: its kind, and how many bytes behind it are of the value, if they are nulls. */
    private static void leads() {
        for (int lead = 0; lead < 256; lead++) {
            String hex = String.format("%02x", lead) + Check.repeat("00", 40);
            int length = lengthBefore(lead);
            PackedGraph x = new PackedGraph();
            Check.feed(x, hex);
            Check.equal("skip of lead " + hex.substring(0, 2), x.skip(0), lead == 0xc1 ? -1 : length);
            x.end(lead == 0xc1 ? 1 : length);
            int v = x.unpack();
            int code = lead == 0xc1 ? 2 : isReference(lead) ? 5 : 0;
            Check.equal("fault of lead " + hex.substring(0, 2), x.fault(0), code);
            if (code == 0) {
                Check.equal("kind of lead " + hex.substring(0, 2), x.about(v, 0), kind(lead));
            }
        }
    }

    private static boolean isReference(int lead) {
        return lead >= 0xc7 && lead <= 0xc9 || lead >= 0xd4 && lead <= 0xd8;
    }

    private static int kind(int lead) {
        if (lead < 0x80 || lead >= 0xe0) {
            return 2;
        }
        if (lead < 0xc0) {
            return lead < 0x90 ? 8 : lead < 0xa0 ? 7 : 5;
        }
        // Of c0 .. df; -1 stands for c1 and the extensions.
        int[] kinds = {0, -1, 1, 1, 6, 6, 6, -1, -1, -1, 3, 4, 2, 2, 2, 2,
            2, 2, 2, 2, -1, -1, -1, -1, -1, 5, 5, 5, 7, 7, 8, 8};
        return kinds[lead - 0xc0];
    }

    private static int lengthBefore(int lead) {
        if (lead < 0x80 || lead >= 0xe0) {
            return 1;
        }
        if (lead < 0xc0) {
            return 1 + (lead < 0x90 ? 2 * (lead - 0x80) : lead < 0xa0 ? lead - 0x90 : lead - 0xa0);
        }
        int[] lengths = {1, 1, 1, 1, 2, 3, 5, 3, 4, 6, 5, 9, 2, 3, 5, 9,
            2, 3, 5, 9, 3, 4, 6, 10, 18, 2, 3, 5, 3, 5, 3, 5};
        return lengths[lead - 0xc0];
    }

    /** All but the last byte, all but the last two ..: the place is that of the lead byte. */
    private static void missingBytes() {
        is("", 1, 0);
        for (String form : FORMS) {
            isRead(form, 1);
            isRead("92c0" + form, 3);
            for (int n = 1; n < length(form); n++) {
                is(prefix(form, n), 1, 0);
                is("92c0" + prefix(form, n), 1, 2);
                is("81" + prefix(form, n), 1, 1);
            }
        }
    }

    /** Of a list or map only its head must be there; a value that is missing is so behind all. */
    private static void missingValues() {
        for (String group : GROUPS) {
            int head = headOf(group);
            isRead(group, 1 + length(group) - head);
            isRead("92c0" + group, 3 + length(group) - head);
            for (int n = 1; n < length(group); n++) {
                is(prefix(group, n), 1, n < head ? 0 : n);
                is("92c0" + prefix(group, n), 1, n < head ? 2 : n + 2);
            }
        }
        is("91", 1, 1);
        is("92 c0", 1, 2);
        is("81", 1, 1);
        is("81 c0", 1, 2);
        is("92 90", 1, 2);
        is("92 91", 1, 2);
        is("92 91 c0", 1, 3);
        is("92 90 a2 61", 1, 2);
    }

    private static int headOf(String group) {
        String lead = group.substring(0, 2);
        return lead.equals("dc") || lead.equals("de") ? 3 : lead.equals("dd") || lead.equals("df") ? 5 : 1;
    }

    /** A length far above what is there, also those that a number with a sign could take for less. */
    private static void missingLengths() {
        for (String n : new String[] {"0000ffff", "7fffffff", "80000000", "fffffff0", "fffffffb", "fffffffe",
            "ffffffff"}) {
            is("db" + n + "6161", 1, 0);
            is("c6" + n + "6161", 1, 0);
            is("c9" + n + "056161", 1, 0);
            is("c9" + n + "ff00000000", 1, 0);
            is("c9" + n + "0000", 1, 0);
            is("91 db" + n, 1, 1);
        }
        is("d9ff" + Check.repeat("61", 254), 1, 0);
        isRead("d9ff" + Check.repeat("61", 255), 1);
        is("da0100" + Check.repeat("61", 255), 1, 0);
        isRead("da0100" + Check.repeat("61", 256), 1);
        is("c4ff" + Check.repeat("61", 254), 1, 0);
        isRead("c4ff" + Check.repeat("61", 255), 1);
        is("c50100" + Check.repeat("61", 255), 1, 0);
        isRead("c50100" + Check.repeat("61", 256), 1);
        is("c7ff05" + Check.repeat("61", 254), 1, 0);
        isRead("c7ff05" + Check.repeat("61", 255), 1);
        is("c8010005" + Check.repeat("61", 255), 1, 0);
        isRead("c8010005" + Check.repeat("61", 256), 1);
    }

    /** A tape that fills the row it is held in: behind its last byte there is nothing at all to be looked at. */
    private static void missingInARowThatIsFull() {
        String[] lasts = {"91", "81", "cc", "cf", "ca", "a1", "d9", "da", "db", "c4", "c6", "c7", "c8", "c9", "d4",
            "d8", "dc", "dd", "de", "df", "c700", "c900000000", "d400", "d4ff", "da00", "dd000000", "dc0001", "90",
            "c70000"};
        for (int size = 64; size <= 2048; size *= 2) {
            for (String last : lasts) {
                int nils = size - 3 - length(last);
                String hex = String.format("dc%04x", nils + 2) + Check.repeat("c0", nils) + last;
                PackedGraph x = new PackedGraph();
                fillExactly(x, hex);
                String what = last + " at the end of " + size;
                boolean isThere = last.equals("90") || last.equals("c70000");
                Check.equal("skip to " + what, x.skip(size - length(last)), isThere ? size : PackedGraph.NONE);
                Check.equal("skip over " + what, x.skip(0), PackedGraph.NONE);
                Check.equal("unpack of " + what, x.unpack(), PackedGraph.NONE);
                boolean isHead = isThere || last.equals("91") || last.equals("81") || last.equals("dc0001");
                Check.equal("code of " + what, x.fault(0), last.equals("c70000") ? 5 : 1);
                Check.equal("place of " + what, x.fault(1), isHead && !last.equals("c70000") ? size : nils + 3);
            }
        }
    }

    /** The last feed() ends where the tape does, so that no more bytes were ever held. */
    private static void fillExactly(PackedGraph x, String hex) {
        int n = length(hex);
        Check.feed(x, prefix(hex, n - 20));
        Check.feed(x, hex.substring(2 * n - 40));
    }

    private static void leadOfNone() {
        is("c1", 2, 0);
        is("91 c1", 2, 1);
        is("92 c0 c1", 2, 2);
        is("81 c1 c0", 2, 1);
        is("81 c0 c1", 2, 2);
        is("92 a1 61 c1", 2, 3);
        isRead("c0", 1);
        isRead("c2", 1);
        isRead("c4 01 c1", 1);
        isRead("d4 c1 c1", 1);
        isRead("cc c1", 1);
    }

    private static void leftBytes() {
        for (String form : FORMS) {
            is(form + "00", 8, length(form));
            is(form + "c1", 8, length(form));
            is(form + form, 8, length(form));
            is("91" + form + "c0", 8, 1 + length(form));
        }
        for (String group : GROUPS) {
            is(group + "c1", 8, length(group));
            is(group + group, 8, length(group));
        }
        is("90 d40000", 8, 1);
        is("c0" + Check.repeat("00", 1000), 8, 1);
    }

    /** As the bytes are gone through: that of the first value counts, not that with the lowest code. */
    private static void firstOfTheTape() {
        String[] faults = {"c1", "a1ff", "d4ff00", "d400c0", "dcffff", "a261"};
        int[] codes = {2, 3, 4, 5, 7};
        for (int first = 0; first < codes.length; first++) {
            // A wrong character has a place of its own.
            int place = codes[first] == 3 ? 2 : 1;
            for (String second : faults) {
                is("92" + faults[first] + second, codes[first], place);
            }
            is("92" + faults[first], codes[first], place);
            is("91" + faults[first] + "c0c0", codes[first], place);
            is("dc0002" + faults[first], codes[first], place + 2);
        }
        is(Check.repeat("91", 25) + "c1", 6, 24);
        is(Check.repeat("91", 25), 6, 24);
        is("92" + Check.repeat("91", 24) + "c1", 6, 24);
        is("92 c1" + Check.repeat("91", 24), 2, 1);
        is("91 c0 c1", 8, 2);
        is("92 c0 c1 c0", 2, 2);
        is("a2 c3 ff a1", 3, 1);
        is("a3 61 ff ff", 3, 2);
    }

    /** Of one value: 2; 1; for what is no list and no map 3 to 5, then 7. */
    private static void firstOfOneValue() {
        is("a2ff", 1, 0);
        is("d902ff", 1, 0);
        is("d5ff00", 1, 0);
        is("c703ff0000", 1, 0);
        is("c70cffffffffff00000000000000", 1, 0);
        is("d7ffffffffffffffff", 1, 0);
        is("91d500c0", 1, 1);
        is("91d500cc", 1, 1);
        is("91c702cc00", 1, 1);
        fullFaults("c1", 2);
        fullFaults("a2ff", 1);
        fullFaults("cc", 1);
        fullFaults("d6ff000000", 1);
        fullFaults("d4", 1);
        fullFaults("a1ff", 3);
        fullFaults("d4ff00", 4);
        fullFaults("d7ffffffffffffffffff", 4);
        fullFaults("d400c0", 5);
        fullFaults("d40000", 5);
        fullFaults("c0", 7);
        fullFaults("c0c0", 7);
        fullFaults("a161c1", 7);
        fullFaults("d6ff00000000c1", 7);
    }

    private static PackedGraph full() {
        PackedGraph x = new PackedGraph();
        Check.unpack(x, "dc0bb7" + Check.repeat("c0", 2999));
        return x;
    }

    private static void fullFaults(String hex, int code) {
        Twin.faults("with all values: " + hex, FaultTest::full, hex, code, code == 3 ? 1 : 0);
    }

    /** 1, then 6, then 7 of a list or map. */
    private static void firstOfAGroup() {
        String open = Check.repeat("91", 24);
        for (String lead : new String[] {"dc", "dc17", "dd", "dd000000", "de", "deff", "df", "dfffffff"}) {
            fullFaults(lead, 1);
            is(open + lead, 1, 24);
        }
        fullFaults("90", 7);
        fullFaults("91", 7);
        fullFaults("91c1", 7);
        fullFaults("ddffffffff", 7);
        is(open + "90", 6, 24);
        is(open + "91", 6, 24);
        is(open + "91c1", 6, 24);
        is(open + "dcffff", 6, 24);
        is(open + "dfffffffff", 6, 24);
        is(Check.repeat("91", 23) + "dcffff", 7, 23);
        is(Check.repeat("91", 23) + "dcffffc1", 7, 23);
        // With 24 open ones, and 2976 values before them, there is no room for a 25th either.
        Twin.Start nearlyFull = () -> {
            PackedGraph x = new PackedGraph();
            Check.unpack(x, "dc0b9f" + Check.repeat("c0", 2975));
            return x;
        };
        Twin.reads("24 open ones of all values", nearlyFull, Check.repeat("91", 23) + "90", 24);
        Twin.faults("6 before 7", nearlyFull, open + "90", 6, 24);
        Twin.faults("7 within them", nearlyFull, open + "c0", 7, 24);
        Twin.faults("3 before 7", nearlyFull, open + "a1ff", 3, 25);
        Twin.faults("1 before 7", nearlyFull, open, 1, 24);
        Twin.reads("no 7 of a reference", nearlyFull, open + "d40000", 24);
        Twin.faults("5, and no 7", nearlyFull, open + "d40018", 5, 24);
    }

    /** All forms of an integer, in all forms of an extension. */
    private static void references() {
        String[] ones = {"01", "cc01", "cd0001", "ce00000001", "cf0000000000000001", "d001", "d10001", "d200000001",
            "d30000000000000001"};
        for (String one : ones) {
            int n = length(one);
            List<String> heads = new ArrayList<>(List.of(String.format("c7%02x", n), String.format("c8%04x", n),
                String.format("c9%08x", n)));
            if (Integer.bitCount(n) == 1) {
                heads.add(String.format("%02x", 0xd4 + Integer.numberOfTrailingZeros(n)));
            }
            for (String head : heads) {
                String reference = head + "00" + one;
                isRead("92 90" + reference, 2);
                PackedGraph x = new PackedGraph();
                Check.unpack(x, "92 90" + reference);
                Check.equal(reference + " is the list itself", x.part(0, 1), 1);
                Check.equal(reference + " packed", Check.packed(x, 0), "9290d40001");
                is("91" + reference, 5, 1);
                is("91" + prefix(reference, length(reference) - 1), 1, 1);
            }
        }
    }

    private static void wrongReferences() {
        // No byte, more than one integer, a part of one, and what is none.
        String[] wrong = {"", "0000", "cc0000", "00cc", "cc", "cd00", "ce000000", "cf00000000000000", "d0", "d100",
            "d2000000", "d300000000000000", "c0", "c1", "c2", "c3", "a0", "a100", "90", "9100", "80", "c400",
            "c40100", "ca00000000", "cb0000000000000000", "d40000", "d40100", "c70000", "d6ff00000000", "d90100",
            "dc0000", "de0000", "00c0", "000000000000000000"};
        for (String bytes : wrong) {
            is("91" + String.format("c7%02x00", length(bytes)) + bytes, 5, 1);
            is("93c0" + String.format("c8%04x00", length(bytes)) + bytes + "c0", 5, 2);
        }
        String[] below = {"ff", "e0", "d0ff", "d080", "d1ffff", "d2ffffffff", "d3ffffffffffffffff",
            "d38000000000000000", "cf8000000000000000", "cfffffffffffffffff", "cf0000000100000000",
            "cf00000000ffffffff", "ceffffffff", "ce80000000", "d27fffffff", "cf7fffffffffffffff"};
        for (String bytes : below) {
            is("91" + String.format("c7%02x00", length(bytes)) + bytes, 5, 1);
        }
        // The integer is not whole within the reference, but the tape goes on.
        is("92 d400cc 00", 5, 1);
        is("92 d500cd00 00", 5, 1);
        is("92 c70000 00", 5, 1);
    }

    private static void referencesToWhatBegan() {
        is("d40000", 5, 0);
        isRead("91 d40000", 1);
        is("91 d40001", 5, 1);
        isRead("92 90 d40001", 2);
        is("92 90 d40002", 5, 2);
        is("92 d40001 90", 5, 1);
        isRead("92 91d40001 c0", 3);
        isRead("92 91d40000 c0", 3);
        is("92 91d40002 90", 5, 2);
        isRead("81 d40000 d40000", 1);
        isRead("81 90 d40001", 2);
        is("81 d40001 90", 5, 1);
        is("92 a161 d40001", 5, 3);
        String many = Check.repeat("90", 299);
        isRead("dc012c" + many + "d4007f", 300);
        isRead("dc012c" + many + "d500cc80", 300);
        isRead("dc012c" + many + "c70300cd012b", 300);
        is("dc012c" + many + "c70300cd012c", 5, 302);
        PackedGraph x = new PackedGraph();
        Check.unpack(x, "94 90 a161 91 80 d40003");
        Check.equal("the third that began", x.part(0, 3), x.part(3, 0));
    }

    private static void referencesOfOtherTapes() {
        PackedGraph x = new PackedGraph();
        Check.unpack(x, "93 90 90 90");
        Check.unpack(x, "91 d40001");
        Check.equal("none of the tape before", x.fault(0), 5);
        Check.unpack(x, "93 90 90 c1");
        Check.unpack(x, "91 d40001");
        Check.equal("none of the tape with a fault before", x.fault(0), 5);
        int v = Check.unpack(x, "91 d40000");
        Check.equal("the list of this tape", x.part(v, 0), v);
    }

    /** Values within have numbers behind, as they begin. */
    private static void numbersInOrder() {
        PackedGraph x = withValues();
        int first = x.count(0);
        Check.equal("unpack", Check.unpack(x, "93 82 a161 91c0 c2 d40001 90 05"), first);
        int[] kinds = {7, 8, 5, 7, 0, 1, 7, 2};
        int[][] parts = {{1, 6, 7}, {2, 3, 5, 1}, {}, {4}};
        for (int v = 0; v < kinds.length; v++) {
            Check.equal("kind of " + v, x.about(first + v, 0), kinds[v]);
        }
        for (int v = 0; v < parts.length; v++) {
            for (int i = 0; i < parts[v].length; i++) {
                Check.equal("part(" + v + ", " + i + ")", x.part(first + v, i), first + parts[v][i]);
            }
        }
        Check.equal("values", x.count(0), first + kinds.length);
        Check.equal("the next", x.nil(), first + kinds.length);
    }

    /** Read again are all forms, also when there is a shorter one. */
    private static void sameForms() {
        String[][] forms = {
            {"05", "cc05", "cd0005", "ce00000005", "cf0000000000000005", "d005", "d10005", "d200000005",
                "d30000000000000005"},
            {"fb", "d0fb", "d1fffb", "d2fffffffb", "d3fffffffffffffffb"},
            {"a161", "d90161", "da000161", "db0000000161"},
            {"a0", "d900", "da0000", "db00000000"},
            {"c40161", "c5000161", "c60000000161"},
            {"c400", "c50000", "c600000000"},
            {"91c0", "dc0001c0", "dd00000001c0"},
            {"90", "dc0000", "dd00000000"},
            {"81c0c2", "de0001c0c2", "df00000001c0c2"},
            {"80", "de0000", "df00000000"},
            {"d40561", "c7010561", "c800010561", "c9000000010561"},
            {"c70005", "c8000005", "c90000000005"},
            {"d5056162", "c702056162", "c80002056162", "c900000002056162"},
            {"d6ff00000007", "c704ff00000007", "c80004ff00000007", "c900000004ff00000007", "d7ff0000000000000007",
                "c70cff000000000000000000000007"}
        };
        for (String[] all : forms) {
            for (String form : all) {
                PackedGraph x = new PackedGraph();
                Check.equal("unpack of " + form, Check.unpack(x, form), 0);
                Check.equal(form + " packed", Check.packed(x, 0), all[0]);
                Check.unpack(x, all[0]);
                Check.equal(form + " is the same", x.same(0, x.count(0) / 2), true);
            }
        }
    }

    /** Only another unpack() changes what fault() tells. */
    private static void latestFault() {
        PackedGraph x = new PackedGraph();
        told(x, "before the first unpack()", 0, 0);
        Check.unpack(x, "92c0c1");
        told(x, "with a fault", 2, 2);
        Check.feed(x, "c1");
        told(x, "after feed()", 2, 2);
        x.skip(0);
        told(x, "after skip()", 2, 2);
        Check.refused("no text", IllegalArgumentException.class, () -> x.row(5));
        told(x, "after row()", 2, 2);
        x.pack(x.nil());
        told(x, "after pack()", 2, 2);
        x.clear();
        told(x, "after clear()", 2, 2);
        x.end(0);
        told(x, "after end()", 2, 2);
        Check.unpack(x, "c0");
        told(x, "without a fault", 0, 0);
        x.unpack();
        told(x, "of no tape", 1, 0);
        Check.unpack(x, "c0c0");
        told(x, "with another", 8, 1);
    }

    private static void told(PackedGraph x, String when, int code, int place) {
        Check.equal("fault(0) " + when, x.fault(0), code);
        Check.equal("fault(1) " + when, x.fault(1), place);
    }

    private static void skipIs(String before, String hex, int due) {
        PackedGraph x = new PackedGraph();
        Check.feed(x, before + hex);
        int from = length(before);
        String what = "skip of " + (hex.length() > 50 ? hex.substring(0, 50) + ".." : hex) + " at " + from;
        Check.equal(what, x.skip(from), due == PackedGraph.NONE ? due : from + due);
        Check.equal(what + ": the tape", x.count(3), length(before + hex));
    }

    private static void skipIs(String hex, int due) {
        skipIs("", hex, due);
        skipIs("c1", hex, due);
        skipIs("91c1ff", hex, due);
        if (due != PackedGraph.NONE) {
            skipIs("", hex + "c1", due);
            skipIs("dc", hex + "9f", due);
        }
    }

    private static void skips() {
        for (String form : FORMS) {
            skipIs(form, length(form));
            for (int n = 1; n < length(form); n++) {
                skipIs(prefix(form, n), PackedGraph.NONE);
            }
        }
        // What is in texts and extensions does not matter, nor what they would be.
        skipIs("a1 ff", 2);
        skipIs("a1 c1", 2);
        skipIs("c4 01 c1", 3);
        skipIs("d4 ff c1", 3);
        skipIs("d4 00 c1", 3);
        skipIs("c7 00 00", 3);
        skipIs("c7 00 ff", 3);
        skipIs("c7 03 ff c1c1c1", 6);
        skipIs("d4 00 7f", 3);
        skipIs("c1", PackedGraph.NONE);
        for (String n : new String[] {"7fffffff", "80000000", "fffffff0", "ffffffff"}) {
            skipIs("db" + n + "00", PackedGraph.NONE);
            skipIs("c6" + n + "00", PackedGraph.NONE);
            skipIs("c9" + n + "0500", PackedGraph.NONE);
            skipIs("dd" + n + "00", PackedGraph.NONE);
            skipIs("df" + n + "00", PackedGraph.NONE);
        }
    }

    private static void skipsOfGroups() {
        for (String group : GROUPS) {
            skipIs(group, length(group));
            for (int n = 1; n < length(group); n++) {
                skipIs(prefix(group, n), PackedGraph.NONE);
            }
        }
        skipIs("92 91c0 c0", 4);
        skipIs("82 90 80 91c0 81c0c0", 8);
        skipIs("92 a161 d405c1", 6);
        // How deep and how many does not matter.
        for (int n : new int[] {23, 24, 25, 26, 100, 5000}) {
            skipIs(Check.repeat("91", n) + "c0", n + 1);
            skipIs(Check.repeat("91", n), PackedGraph.NONE);
            skipIs(Check.repeat("81", n) + Check.repeat("c0", n + 1), 2 * n + 1);
            skipIs(Check.repeat("81", n) + Check.repeat("c0", n), PackedGraph.NONE);
        }
        skipIs("dc1771" + Check.repeat("c0", 6001), 6004);
        skipIs("dc1771" + Check.repeat("c0", 6000), PackedGraph.NONE);
        skipIs("dd00001771" + Check.repeat("c0", 6001), 6006);
        skipIs("de0bb9" + Check.repeat("c0", 6002), 6005);
        skipIs("de0bb9" + Check.repeat("c0", 6001), PackedGraph.NONE);
    }

    private static void skipsNone() {
        skipIs("91 c1", PackedGraph.NONE);
        skipIs("92 c0 c1", PackedGraph.NONE);
        skipIs("92 c1 c0", PackedGraph.NONE);
        skipIs("81 c0 c1", PackedGraph.NONE);
        skipIs("91 a2ff", PackedGraph.NONE);
        skipIs("92 90", PackedGraph.NONE);
        // So many said that the count of what is due would overflow if it were an int.
        skipIs("dfffffffff" + "dfffffffff" + "ddffffffff" + Check.repeat("c0", 100), PackedGraph.NONE);
        skipIs("dd80000000" + "dd80000000" + "c0c0", PackedGraph.NONE);
        skipIs("df80000000" + "c0c0", PackedGraph.NONE);
        PackedGraph x = new PackedGraph();
        Check.refused("skip(0) of no tape", IndexOutOfBoundsException.class, () -> x.skip(0));
    }
}
