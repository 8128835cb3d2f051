import java.util.HexFormat;

/** Bytes written out: in hexadecimal, with spaces wherever they help the eye. */
final class Hex {
    private Hex() {
    }

    static byte[] bytes(String hex) {
        return HexFormat.of().parseHex(hex.replace(" ", ""));
    }

    static int[] row(byte[] bytes) {
        int[] row = new int[bytes.length];
        for (int i = 0; i < row.length; i++) {
            row[i] = bytes[i] & 255;
        }
        return row;
    }

    static String text(byte[] bytes) {
        return HexFormat.of().formatHex(bytes);
    }

    static String text(int b) {
        return HexFormat.of().toHexDigits((byte) b);
    }

    /** A node by its hash: the item that a node above it has for it. */
    static String hashOf(String node) {
        return "a0" + text(Keccak.hash(bytes(node)));
    }
}
