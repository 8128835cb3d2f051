import java.security.MessageDigest;
import java.util.Arrays;

/**
 * The sentences of "Terms" on the hash, each with a test of its own, and then hashes of all lengths: the
 * reference against the Java library's SHA3-256, the program against the reference.
 */
public final class HashTest {
    private static final Due DUE = new Due("HashTest");

    private HashTest() {
    }

    public static void main(String[] args) throws Exception {
        nothingToHash();
        padding();
        blocksInALedger();
        bytesOfTheHash();
        compare();
        DUE.end();
    }

    private static void nothingToHash() {
        DUE.sentence("The HASH of a row of bytes has 32 bytes.");
        known("", "c5d2460186f7233c927e7db2dcc703c0e500b653ca82273b7bfad8045d85a470");
        known("80", "56e81f171bcc55a6ff8345e692c0f86e5b48e01b996cadc001622fb5e363b421");
        known("616263", "4e03657aea45a94fc7d47ba826c8d667c0d1e6e33a64a036ec44f58fa12d6c45");
    }

    private static void padding() {
        DUE.sentence("then zeros up to a multiple of 136 bytes (at least the byte 1 comes; perhaps no zeros)");
        for (int length : new int[] {134, 135, 136, 137, 271, 272, 273, 407, 408}) {
            byte[] row = new byte[length];
            Arrays.fill(row, (byte) 200);
            same("the hash of " + length + " bytes", hash(row, 0), Keccak.hash(row));
        }
    }

    // The codes of these ledgers have 134 to 138 bytes: one block that is not full, one that is, and two.
    private static void blocksInALedger() {
        DUE.sentence("Each 136 bytes, one after the other, are taken as 17 words, the lowest byte first");
        for (int more = 31; more <= 35; more++) {
            ProvenLedger x = Ledgers.fork(12, more);
            DUE.is("size()", x.size(), 103 + more);
            Ledgers.proofBegins(DUE, x, "f8" + Hex.text(101 + more));
        }
    }

    private static void bytesOfTheHash() {
        DUE.sentence("The hash is W(0, 0), W(1, 0), W(2, 0), W(3, 0) as bytes, the lowest byte of each first.");
        ProvenLedger.Hasher hasher = new ProvenLedger.Hasher();
        hasher.hash(new int[0], 0, 0);
        DUE.is("the first byte", hasher.hashByte(0), 0xc5);
        DUE.is("the last byte of the first word", hasher.hashByte(7), 0x3c);
        DUE.is("the first byte of the last word", hasher.hashByte(24), 0x7b);
        DUE.is("the last byte", hasher.hashByte(31), 0x70);
        ProvenLedger none = new ProvenLedger();
        DUE.is("root(0) of none", none.root(0), 0x56e81f171bcc55a6L);
        DUE.is("root(3) of none", none.root(3), 0x01622fb5e363b421L);
    }

    private static void compare() throws Exception {
        DUE.sentence("To the row come a byte 1 .. (compared with the reference)");
        MessageDigest library = MessageDigest.getInstance("SHA3-256");
        for (int length = 0; length <= 420; length++) {
            byte[] row = new byte[length];
            for (int i = 0; i < length; i++) {
                row[i] = (byte) (i * i + 7 * length);
            }
            same("SHA3-256 of " + length + " bytes", Keccak.hash(row, 6), library.digest(row));
            same("hash of " + length + " bytes", hash(row, 0), Keccak.hash(row));
            same("hash of " + length + " bytes further on", hash(row, 5), Keccak.hash(row));
        }
    }

    private static void known(String row, String hash) {
        same("the hash of '" + row + "'", hash(Hex.bytes(row), 0), Hex.bytes(hash));
    }

    // What stands before and behind the bytes must not count.
    private static byte[] hash(byte[] row, int begin) {
        int[] bytes = new int[begin + row.length + 9];
        Arrays.fill(bytes, 77);
        System.arraycopy(Hex.row(row), 0, bytes, begin, row.length);
        ProvenLedger.Hasher hasher = new ProvenLedger.Hasher();
        hasher.hash(new int[] {1, 2, 3}, 0, 3);
        hasher.hash(bytes, begin, row.length);
        byte[] hash = new byte[32];
        for (int i = 0; i < 32; i++) {
            hash[i] = (byte) hasher.hashByte(i);
        }
        return hash;
    }

    private static void same(String what, byte[] got, byte[] want) {
        DUE.is(what + ", length", got.length, want.length);
        for (int i = 0; i < want.length; i++) {
            DUE.is(what + ", byte " + i, got[i], want[i]);
        }
    }
}
