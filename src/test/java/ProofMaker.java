import java.io.ByteArrayOutputStream;
import java.util.Arrays;
import java.util.LinkedList;
import java.util.List;
import java.util.Random;

/** Makes proofs that are nearly right, from a seed: nodes of all kinds with now and then a wrong byte. */
final class ProofMaker {
    private static final int MOST_BYTES = 404;

    private final Random random;
    private final int account;
    private final String path;
    private final LinkedList<byte[]> parts = new LinkedList<>();
    private int depth = 4;

    ProofMaker(long seed) {
        random = new Random(seed);
        account = random.nextInt(65536);
        path = String.format("%04x", account);
        int number = 1 + random.nextInt(4);
        byte[] node = leaf();
        for (int p = 0; p < number; p++) {
            node = p == 0 ? node : above(reference());
            while (random.nextInt(3) > 0) {
                node = above(node);
            }
            if (p == number - 1 && random.nextInt(8) > 0) {
                node = upToTop(node);
            }
            parts.addFirst(spoilt(node));
        }
        if (random.nextInt(20) == 0) {
            parts.add(new byte[random.nextInt(3)]);
        }
    }

    int account() {
        return account;
    }

    List<byte[]> parts() {
        return parts;
    }

    private boolean rarely() {
        return random.nextInt(25) == 0;
    }

    private byte[] reference() {
        byte[] next = parts.getFirst();
        byte[] hash = Keccak.hash(next);
        if (rarely()) {
            hash[random.nextInt(32)]++;
        }
        byte[] reference = new byte[33];
        reference[0] = (byte) 160;
        System.arraycopy(hash, 0, reference, 1, 32);
        return reference;
    }

    // The digits that lead from a lesser depth down to where the last node made begins.
    private String takeDigits() {
        int from = random.nextInt(depth + 1);
        String digits = path.substring(from, depth);
        depth = from;
        return rarely() ? digits + "7" : digits;
    }

    private byte[] pack(String digits, boolean marked) {
        byte[] packed = Reference.pack(digits, marked);
        if (random.nextInt(6) == 0) {
            packed[0] |= (byte) (64 * random.nextInt(4));
        }
        byte[] coded = Reference.code(packed);
        if (rarely() && coded[0] < 0) {
            coded[0] += 64;
        }
        return coded;
    }

    private byte[] leaf() {
        byte[] pair = list(number(), number());
        byte[] value = rarely() ? number() : Reference.code(pair);
        byte[] digits = pack(takeDigits(), !rarely());
        return list(value.length > 55 ? new byte[][] {digits, number()} : new byte[][] {digits, value});
    }

    private byte[] number() {
        byte[] row = new byte[random.nextInt(11)];
        random.nextBytes(row);
        byte[] coded = random.nextInt(3) == 0 ? Reference.code(Reference.number(random.nextInt(300)))
                : Reference.code(row);
        if (rarely()) {
            coded[0] = (byte) (184 + random.nextInt(72));
        }
        return coded;
    }

    private byte[] above(byte[] below) {
        if (depth > 0 && random.nextInt(3) > 0) {
            return fork(below);
        }
        return list(pack(takeDigits(), rarely()), below);
    }

    private byte[] upToTop(byte[] node) {
        if (depth == 0) {
            return node;
        }
        byte[] digits = pack(path.substring(0, depth), false);
        depth = 0;
        return list(digits, node);
    }

    private byte[] fork(byte[] below) {
        depth--;
        int digit = Character.digit(path.charAt(depth), 16);
        byte[][] items = new byte[17][];
        for (int i = 0; i < 17; i++) {
            items[i] = i == digit ? below : random.nextInt(6) == 0 ? number() : new byte[] {(byte) 128};
        }
        return list(rarely() ? Arrays.copyOf(items, digit + 1) : items);
    }

    private byte[] list(byte[]... items) {
        ByteArrayOutputStream body = new ByteArrayOutputStream();
        for (byte[] item : items) {
            body.writeBytes(item);
        }
        int length = body.size() + (rarely() ? random.nextInt(3) - 1 : 0);
        int form = length > 255 ? 2 : length > 55 || rarely() ? 1 : 0;
        ByteArrayOutputStream out = new ByteArrayOutputStream();
        out.write(form == 0 ? 192 + Math.max(0, length) : 247 + form);
        if (form == 2) {
            out.write(length >> 8);
        }
        if (form > 0) {
            out.write(length);
        }
        out.writeBytes(body.toByteArray());
        return out.toByteArray();
    }

    private byte[] spoilt(byte[] node) {
        byte[] spoilt = node.length > MOST_BYTES ? Arrays.copyOf(node, MOST_BYTES) : node.clone();
        if (random.nextInt(6) == 0) {
            spoilt[random.nextInt(spoilt.length)] = (byte) random.nextInt(256);
        }
        return random.nextInt(12) == 0 ? Arrays.copyOf(spoilt, spoilt.length - random.nextInt(spoilt.length)) : spoilt;
    }
}
