import java.nio.ByteBuffer;
import java.nio.charset.StandardCharsets;
import java.util.Arrays;

/** What several test classes need. */
final class Tools {
    private Tools() {
    }

    /** All that can be told of the street, so that two moments can be compared. */
    static String picture(LampOrder x) {
        StringBuilder s = new StringBuilder();
        for (int what = 0; what < 9; what++) {
            s.append(x.count(what)).append(' ').append(x.street(what)).append(' ');
            for (int lamp = 0; lamp < 10; lamp++) {
                s.append(x.told(lamp, what)).append(' ');
            }
        }
        return s.toString();
    }

    /** Puts a TEXT on an empty TAPE, and has it read. */
    static int read(LampOrder x, String text) {
        byte[] bytes = text.getBytes(StandardCharsets.ISO_8859_1);
        ByteBuffer padded = ByteBuffer.wrap(Arrays.copyOf(bytes, (bytes.length + 11) / 12 * 12));
        while (padded.hasRemaining()) {
            x.feed(padded.getInt(), padded.getInt(), padded.getInt());
        }
        x.trim(bytes.length);
        return x.text();
    }
}
