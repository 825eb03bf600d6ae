/** Objects begun alike: one of them is called, and what the call changed is seen beside the other. */
final class Twin {
    interface Start {
        PackedGraph make();
    }

    interface Call {
        Object on(PackedGraph x);
    }

    private Twin() {
    }

    /** The answer, or throws. and the exception's name. */
    static String outcome(PackedGraph x, Call call) {
        try {
            return String.valueOf(call.on(x));
        } catch (RuntimeException e) {
            return "throws." + Check.name(e);
        }
    }

    static void answers(String what, Start start, Call call, Object due) {
        Check.equal(what, outcome(start.make(), call), String.valueOf(due));
    }

    /** The call throws, and nothing has changed. */
    static void refuses(String what, Start start, Call call, Class<? extends Exception> due) {
        PackedGraph x = start.make();
        Check.equal(what, outcome(x, call), "throws." + due.getSimpleName());
        Check.equal(what + " changes nothing", state(x, true), state(start.make(), true));
    }

    /** The packing throws, and nothing has changed but the out, which is empty. */
    static void refusesToPack(String what, Start start, int v) {
        PackedGraph x = start.make();
        Check.equal(what, outcome(x, y -> y.pack(v)), "throws.UnsupportedOperationException");
        Check.equal(what + ": the out", x.count(4), 0);
        Check.equal(what + ": byte 0 of the out", outcome(x, y -> y.shown(0)), "throws.IndexOutOfBoundsException");
        Check.equal(what + " changes nothing else", state(x, false), state(start.make(), false));
    }

    /** The tape is read without a fault, and as so many values. */
    static void reads(String what, Start start, String hex, int values) {
        PackedGraph x = start.make();
        int before = x.count(0);
        Check.equal(what, Check.unpack(x, hex), before);
        Check.equal(what + ": fault(0)", x.fault(0), 0);
        Check.equal(what + ": fault(1)", x.fault(1), 0);
        Check.equal(what + ": values", x.count(0) - before, values);
        Check.equal(what + ": tape", x.count(3), 0);
    }

    /** The tape is read with a fault, and no value is made. */
    static void faults(String what, Start start, String hex, int code, int place) {
        PackedGraph x = start.make();
        Check.equal(what, Check.unpack(x, hex), PackedGraph.NONE);
        Check.equal(what + ": fault(0)", x.fault(0), code);
        Check.equal(what + ": fault(1)", x.fault(1), place);
        Check.equal(what + ": tape", x.count(3), 0);
        PackedGraph other = start.make();
        other.end(0);
        String values = values(x) + out(x);
        Check.equal(what + " makes no value", values, values(other) + out(other));
    }

    /** All that can be known of an object; the object's values and tape are gone then. */
    static String state(PackedGraph x, boolean withOut) {
        String all = values(x) + (withOut ? out(x) : "") + " fault " + x.fault(0) + " at " + x.fault(1);
        x.clear();
        return all + " tape " + bytes(x, x.row(6));
    }

    private static String values(PackedGraph x) {
        StringBuilder all = new StringBuilder();
        for (int what = 0; what < 3; what++) {
            all.append(x.count(what)).append(' ');
        }
        for (int v = 0; v < x.count(0); v++) {
            all.append("; ").append(v).append(':');
            for (int what = 0; what < 4; what++) {
                all.append(' ').append(x.about(v, what));
            }
            int of = v;
            all.append(" number ").append(outcome(x, y -> y.number(of)));
            all.append(" parts ").append(parts(x, v));
        }
        return all.toString();
    }

    private static String parts(PackedGraph x, int v) {
        if (x.about(v, 0) != 7 && x.about(v, 0) != 8) {
            return bytes(x, v);
        }
        StringBuilder all = new StringBuilder();
        int n = x.about(v, 0) == 8 ? 2 * x.about(v, 1) : x.about(v, 1);
        for (int i = 0; i < n; i++) {
            all.append(x.part(v, i)).append(' ');
        }
        return all.toString();
    }

    private static String bytes(PackedGraph x, int v) {
        byte[] all = new byte[x.about(v, 1)];
        for (int i = 0; i < all.length; i++) {
            all[i] = (byte) x.part(v, i);
        }
        return Check.hex(all);
    }

    private static String out(PackedGraph x) {
        return " out " + Check.out(x);
    }
}
