import com.sun.management.ThreadMXBean;
import java.lang.management.ManagementFactory;

/** The room that the dearest runs of 512 calls take: all calls of a run live in one, and nothing in it goes. */
public final class RoomTest {
    // A field or element takes a byte at least and an object sixteen: what stays below this many bytes has neither
    // 7.3 million fields and elements nor 600,000 objects.
    private static final long MOST = 7_300_000;
    private static final int CALLS = 512;
    private static final int NILS = 0xc0c0c0c0;

    private interface Run {
        void on(PackedGraph x);
    }

    public static void main(String[] args) {
        PackedGraph warm = new PackedGraph();
        Check.unpack(warm, "9281c0d40000a161");
        warm.pack(0);
        takes("long tapes with faults", RoomTest::longTapes);
        takes("one list of all values", RoomTest::longLists);
        takes("many tapes with faults", x -> shortTapes(x, 0x9fc00000, false));
        takes("many tapes of deep lists", x -> shortTapes(x, 0x91919191, false));
        takes("many tapes of small lists", x -> shortTapes(x, 0xdc001191, true));
        takes("the longest out, again and again", RoomTest::longOuts);
        takes("a map of many long keys", RoomTest::longKeys);
        takes("a list that is added to", RoomTest::additions);
        takes("calls that are refused", RoomTest::refusals);
        takes("new objects", x -> newObjects());
        Check.close("RoomTest");
    }

    private static void takes(String what, Run run) {
        ThreadMXBean room = (ThreadMXBean) ManagementFactory.getThreadMXBean();
        long before = room.getCurrentThreadAllocatedBytes();
        run.on(new PackedGraph());
        long bytes = room.getCurrentThreadAllocatedBytes() - before;
        Check.equal(what + ": " + bytes + " bytes of room are enough", bytes < MOST, true);
    }

    /** Three tapes of all values, in as many small lists as there can be; bytes are left, so that all values go. */
    private static void longTapes(PackedGraph x) {
        for (int tape = 0; tape < 3; tape++) {
            x.feed(0xdc05db91, 0xc091c091, 0xc091c091, 0xc091c091, 0xc091c091);
            for (int i = 0; i < 150; i++) {
                x.feed(0xc091c091, 0xc091c091, 0xc091c091, 0xc091c091, 0xc091c091);
            }
            x.unpack();
            Check.equal("all are read, and bytes are left", x.fault(0), 8);
        }
    }

    /** A list that grew by a few values at a time, and not twofold, would take the whole room here. */
    private static void longLists(PackedGraph x) {
        for (int tape = 0; tape < 3; tape++) {
            x.feed(0xdc0bb5c0, NILS, NILS, NILS, NILS);
            for (int i = 0; i < 149; i++) {
                x.feed(NILS, NILS, NILS, NILS, NILS);
            }
            x.unpack();
            Check.equal("one list is read", x.clear(), 2998);
        }
    }

    private static void shortTapes(PackedGraph x, int head, boolean isList) {
        for (int i = 0; i < CALLS / 2; i++) {
            if (isList) {
                x.feed(head, 0xc091c091, 0xc091c091, 0xc091c091, 0xc091c091);
            } else {
                x.feed(head, head, head, head, head);
            }
            x.unpack();
        }
    }

    /** Value 0 is a list that packs to 65536 bytes but a few. */
    private static void longList(PackedGraph x) {
        x.group(7);
        for (int i = 0; i < 52; i++) {
            x.feed(i, i, i, i, i);
        }
        x.end(1021);
        int row = x.row(6);
        for (int i = 0; i < 63; i++) {
            x.add(0, row);
        }
    }

    private static void longOuts(PackedGraph x) {
        longList(x);
        int map = x.group(8);
        x.put(map, 0, 1);
        for (int i = 120; i < CALLS; i += 4) {
            x.pack(0);
            x.same(0, 0);
            x.find(map, 0);
            x.pack(1);
        }
    }

    private static void longKeys(PackedGraph x) {
        longList(x);
        int other = x.group(7);
        x.add(other, 0);
        int map = x.group(8);
        for (int i = 0; i < 190; i++) {
            x.put(map, 0, 0);
        }
        for (int i = 311; i < CALLS; i++) {
            x.find(map, other);
        }
    }

    private static void additions(PackedGraph x) {
        x.group(7);
        for (int i = 1; i < CALLS; i++) {
            x.add(0, 0);
        }
    }

    private static void refusals(PackedGraph x) {
        for (int i = 0; i < CALLS; i++) {
            Check.refused("shown(" + i + ")", IndexOutOfBoundsException.class, () -> x.shown(0));
        }
    }

    private static void newObjects() {
        for (int i = 0; i < CALLS; i++) {
            new PackedGraph().nil();
        }
    }
}
