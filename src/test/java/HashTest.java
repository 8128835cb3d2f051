import java.security.MessageDigest;
import java.util.HexFormat;

/** The hash: the reference against the Java library's SHA3-256, the program against the reference. */
public final class HashTest {
    private static final Due DUE = new Due("HashTest");

    private HashTest() {
    }

    public static void main(String[] args) throws Exception {
        MessageDigest library = MessageDigest.getInstance("SHA3-256");
        for (int length = 0; length <= 420; length++) {
            byte[] row = new byte[length];
            for (int i = 0; i < length; i++) {
                row[i] = (byte) (i * i + 7 * length);
            }
            same("SHA3-256 of " + length + " bytes", Keccak.hash(row, 6), library.digest(row));
            same("hash of " + length + " bytes", hash(row, 0), Keccak.hash(row));
            same("hash of " + length + " bytes further on", hash(row, 5), Keccak.hash(row));
        }
        known("", "c5d2460186f7233c927e7db2dcc703c0e500b653ca82273b7bfad8045d85a470");
        known("abc", "4e03657aea45a94fc7d47ba826c8d667c0d1e6e33a64a036ec44f58fa12d6c45");
        DUE.end();
    }

    private static void known(String text, String hash) throws Exception {
        same("hash of '" + text + "'", hash(text.getBytes("US-ASCII"), 0), HexFormat.of().parseHex(hash));
    }

    // What stands before and behind the bytes must not count.
    private static byte[] hash(byte[] row, int begin) {
        int[] bytes = new int[begin + row.length + 9];
        java.util.Arrays.fill(bytes, 77);
        for (int i = 0; i < row.length; i++) {
            bytes[begin + i] = row[i] & 255;
        }
        ProvenLedger.Hasher hasher = new ProvenLedger.Hasher();
        hasher.hash(new int[] {1, 2, 3}, 0, 3);
        hasher.hash(bytes, begin, row.length);
        byte[] hash = new byte[32];
        for (int i = 0; i < 32; i++) {
            hash[i] = (byte) hasher.hashByte(i);
        }
        return hash;
    }

    private static void same(String what, byte[] got, byte[] want) {
        DUE.is(what + ", length", got.length, want.length);
        for (int i = 0; i < want.length; i++) {
            DUE.is(what + ", byte " + i, got[i], want[i]);
        }
    }
}
