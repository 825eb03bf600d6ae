import java.nio.ByteBuffer;
import java.nio.CharBuffer;
import java.nio.charset.CharsetDecoder;
import java.nio.charset.CodingErrorAction;
import java.nio.charset.StandardCharsets;

/** Texts of one character and of what is nearly one, as the Java library's decoder knows them. */
public final class CharacterTest {
    private static final int[] NEAR = {0x41, 0x7f, 0x80, 0x9f, 0xa0, 0xbf, 0xc0, 0xff};

    private static PackedGraph x = new PackedGraph();
    private static int wrong = 0;
    private static int texts = 0;

    public static void main(String[] args) {
        for (int lead = 0; lead < 256; lead++) {
            compare(lead);
            for (int second = 0; second < 256; second++) {
                compare(lead, second);
                for (int third : lead < 0xc0 ? new int[0] : NEAR) {
                    compare(lead, second, third);
                    for (int fourth : lead < 0xe0 ? new int[0] : NEAR) {
                        compare(lead, second, third, fourth);
                    }
                }
            }
        }
        Check.equal("wrong answers of " + texts + " texts", wrong, 0);
        Check.close("CharacterTest");
    }

    private static void compare(int... characters) {
        byte[] tape = new byte[20];
        tape[0] = (byte) (0xa0 + characters.length);
        for (int i = 0; i < characters.length; i++) {
            tape[i + 1] = (byte) characters[i];
        }
        int[] five = Check.fiveNumbers(tape);
        if (texts % 100 == 0) {
            x = new PackedGraph();
        }
        texts++;
        x.feed(five[0], five[1], five[2], five[3], five[4]);
        x.end(1 + characters.length);
        x.unpack();
        int due = firstWrong(ByteBuffer.wrap(tape, 1, characters.length));
        if (x.fault(0) != (due == 0 ? 0 : 3) || x.fault(1) != due) {
            wrong++;
            System.out.println("text " + Check.hex(tape) + " has its fault at " + x.fault(1) + ", due is " + due);
        }
    }

    /** 0 for a text: the lead stands there. */
    private static int firstWrong(ByteBuffer text) {
        CharsetDecoder decoder = StandardCharsets.UTF_8.newDecoder().onMalformedInput(CodingErrorAction.REPORT);
        return decoder.decode(text, CharBuffer.allocate(9), true).isError() ? text.position() : 0;
    }
}
