import java.util.Arrays;
import java.util.HexFormat;

/** What the tests share: counting what passed, and getting bytes in and out of a PackedGraph. */
final class Check {
    interface Call {
        void run() throws Exception;
    }

    private static int passed = 0;
    private static int failed = 0;

    private Check() {
    }

    static void equal(String what, Object got, Object due) {
        if (got.equals(due)) {
            passed++;
        } else {
            failed++;
            System.out.println(what + ": answered " + got + ", due is " + due);
        }
    }

    static void refused(String what, Class<? extends Exception> due, Call call) {
        String got = "nothing";
        try {
            call.run();
        } catch (Exception e) {
            got = name(e);
        }
        equal(what + " throws", got, due.getSimpleName());
    }

    /** The library may throw the same exceptions, but only a throw of the class itself is allowed. */
    static String name(Exception e) {
        StackTraceElement[] trace = e.getStackTrace();
        boolean isOwn = trace.length > 0 && trace[0].getClassName().startsWith("PackedGraph");
        return e.getClass().getSimpleName() + (isOwn ? "" : " not by a throw of its own");
    }

    /** Exits, so that a script sees whether a test failed. */
    static void close(String name) {
        System.out.println(name + ": " + passed + " passed, " + failed + " failed");
        System.exit(failed == 0 ? 0 : 1);
    }

    static byte[] bytes(String hex) {
        String figures = hex.replace(" ", "");
        byte[] all = new byte[figures.length() / 2];
        for (int i = 0; i < all.length; i++) {
            all[i] = (byte) Integer.parseInt(figures.substring(2 * i, 2 * i + 2), 16);
        }
        return all;
    }

    static String hex(byte[] bytes) {
        return HexFormat.of().formatHex(bytes);
    }

    static String repeat(String hex, int n) {
        return hex.replace(" ", "").repeat(n);
    }

    /** Twenty bytes a call, the last call's rest cut off again. */
    static void feed(PackedGraph x, byte[] bytes) {
        int before = x.count(3);
        for (int i = 0; i < bytes.length; i += 20) {
            int[] five = fiveNumbers(Arrays.copyOfRange(bytes, i, i + 20));
            x.feed(five[0], five[1], five[2], five[3], five[4]);
        }
        x.end(before + bytes.length);
    }

    static void feed(PackedGraph x, String hex) {
        feed(x, bytes(hex));
    }

    static int[] fiveNumbers(byte[] twenty) {
        int[] five = new int[5];
        for (int i = 0; i < 20; i++) {
            five[i / 4] = five[i / 4] << 8 | twenty[i] & 255;
        }
        return five;
    }

    static int unpack(PackedGraph x, String hex) {
        feed(x, hex);
        return x.unpack();
    }

    static String out(PackedGraph x) {
        byte[] all = new byte[x.count(4)];
        for (int i = 0; i < all.length; i++) {
            all[i] = (byte) x.shown(i);
        }
        return hex(all);
    }

    static String packed(PackedGraph x, int v) {
        int n = x.pack(v);
        String shown = out(x);
        equal("pack(" + v + ") answers its length", n, shown.length() / 2);
        return shown;
    }
}
