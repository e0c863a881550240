import java.nio.ByteBuffer;
import java.nio.charset.StandardCharsets;
import java.util.Arrays;

/** What several test classes need. */
final class Tools {
    private Tools() {
    }

    /** All that can be told of the street, so that two moments can be compared. */
    static String picture(LampOrder x) {
        StringBuilder s = new StringBuilder();
        for (int what = 0; what < 9; what++) {
            s.append(x.count(what)).append(' ').append(x.street(what)).append(' ');
            for (int lamp = 0; lamp < 10; lamp++) {
                s.append(x.told(lamp, what)).append(' ');
            }
        }
        return s.toString();
    }

    /** A TEXT's bytes as the numbers that feed them, with bytes of 0 behind its end. */
    static int[][] threes(String text) {
        byte[] bytes = text.getBytes(StandardCharsets.ISO_8859_1);
        int[][] threes = new int[(bytes.length + 11) / 12][];
        ByteBuffer padded = ByteBuffer.wrap(Arrays.copyOf(bytes, 12 * threes.length));
        for (int i = 0; i < threes.length; i++) {
            threes[i] = new int[] {padded.getInt(), padded.getInt(), padded.getInt()};
        }
        return threes;
    }

    /** Puts a TEXT on an empty TAPE, and has it read. */
    static int read(LampOrder x, String text) {
        for (int[] three : threes(text)) {
            x.feed(three[0], three[1], three[2]);
        }
        x.trim(text.length());
        return x.text();
    }
}
