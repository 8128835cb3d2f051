/** The hash as the document words it, with W(x, y) as W[x][y] and every table worked out. */
final class Keccak {
    private static final int BLOCK = 136;
    private static final int[][] DISTANCES = distances();
    private static final long[] ROUND_WORDS = roundWords();

    private Keccak() {
    }

    /** The document's hash. */
    static byte[] hash(byte[] row) {
        return hash(row, 1);
    }

    /** With the byte 6 in place of 1 this is SHA3-256, which the Java library has to compare with. */
    static byte[] hash(byte[] row, int behind) {
        byte[] padded = java.util.Arrays.copyOf(row, (row.length / BLOCK + 1) * BLOCK);
        padded[row.length] = (byte) behind;
        padded[padded.length - 1] += (byte) 128;
        long[][] w = new long[5][5];
        for (int block = 0; block < padded.length; block += BLOCK) {
            for (int k = 0; k < 17; k++) {
                w[k % 5][k / 5] ^= word(padded, block + 8 * k);
            }
            for (int r = 0; r < 24; r++) {
                w = round(w, r);
            }
        }
        byte[] answer = new byte[32];
        for (int i = 0; i < 32; i++) {
            answer[i] = (byte) (w[i / 8][0] >>> 8 * (i % 8));
        }
        return answer;
    }

    private static long word(byte[] row, int begin) {
        long word = 0;
        for (int i = 7; i >= 0; i--) {
            word = word << 8 | row[begin + i] & 255;
        }
        return word;
    }

    private static long[][] round(long[][] w, int r) {
        long[] c = new long[5];
        for (int x = 0; x < 5; x++) {
            c[x] = w[x][0] ^ w[x][1] ^ w[x][2] ^ w[x][3] ^ w[x][4];
        }
        long[][] b = new long[5][5];
        for (int x = 0; x < 5; x++) {
            long d = c[(x + 4) % 5] ^ Long.rotateLeft(c[(x + 1) % 5], 1);
            for (int y = 0; y < 5; y++) {
                b[y][(2 * x + 3 * y) % 5] = Long.rotateLeft(w[x][y] ^ d, DISTANCES[x][y]);
            }
        }
        long[][] after = new long[5][5];
        for (int x = 0; x < 5; x++) {
            for (int y = 0; y < 5; y++) {
                after[x][y] = b[x][y] ^ (~b[(x + 1) % 5][y] & b[(x + 2) % 5][y]);
            }
        }
        after[0][0] ^= ROUND_WORDS[r];
        return after;
    }

    private static int[][] distances() {
        int[][] distances = new int[5][5];
        int x = 1;
        int y = 0;
        for (int t = 0; t < 24; t++) {
            distances[x][y] = (t + 1) * (t + 2) / 2 % 64;
            int below = (2 * x + 3 * y) % 5;
            x = y;
            y = below;
        }
        return distances;
    }

    private static long[] roundWords() {
        long[] words = new long[24];
        for (int r = 0; r < 24; r++) {
            for (int j = 0; j <= 6; j++) {
                words[r] |= (long) lowestBit(7 * r + j) << (1 << j) - 1;
            }
        }
        return words;
    }

    private static int lowestBit(int steps) {
        int register = 1;
        for (int t = 0; t < steps; t++) {
            register = 2 * register;
            if (register >= 256) {
                register ^= 369;
            }
        }
        return register & 1;
    }
}
