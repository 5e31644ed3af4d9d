import java.nio.ByteBuffer;
import java.util.Arrays;
import java.util.HexFormat;

/** Brings rows of bytes to a LeafWitness and reads OUT whole, as hexadecimal text. */
final class Desk {
    final LeafWitness x = new LeafWitness();

    static byte[] hex(String text) {
        return HexFormat.of().parseHex(text);
    }

    static String text(byte[] bytes) {
        return HexFormat.of().formatHex(bytes);
    }

    /** The TAPE is these bytes alone. */
    Desk tape(byte[] bytes) {
        x.end(0);
        return bring(bytes, 0);
    }

    Desk tape(String hex) {
        return tape(hex(hex));
    }

    /** The bytes come behind the TAPE, which has some. */
    Desk bring(byte[] bytes, int had) {
        for (int at = 0; at < bytes.length; at += 20) {
            ByteBuffer five = ByteBuffer.wrap(Arrays.copyOfRange(bytes, at, at + 20));
            x.feed(five.getInt(), five.getInt(), five.getInt(), five.getInt(), five.getInt());
        }
        x.end(had + bytes.length);
        return this;
    }

    /** A TAPE of n bytes, all of them 7. */
    Desk sevens(int n) {
        byte[] bytes = new byte[n];
        Arrays.fill(bytes, (byte) 7);
        return tape(bytes);
    }

    /** Whether the TAPE is empty: one byte is already too many. */
    boolean tapeIsEmpty() {
        return !x.end(1);
    }

    int submit(int log, String hex) {
        return tape(hex).x.submit(log);
    }

    int submitNumber(int log, int number) {
        x.end(0);
        x.feed(number, 0, 0, 0, 0);
        return x.submit(log);
    }

    /** The HEAD of these, sealed with the KEY of a LOG; no call is spent on it, for an object has only 512. */
    static String sealed(String key, long time, long size, String root) {
        return text(Reference.sealed(hex(key), Reference.join(Reference.numbers(time, size), hex(root))));
    }

    String out() {
        byte[] bytes = new byte[x.outs()];
        for (int i = 0; i < bytes.length; i++) {
            bytes[i] = (byte) x.out(i);
        }
        return text(bytes);
    }
}
