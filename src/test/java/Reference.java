import java.io.ByteArrayOutputStream;
import java.math.BigInteger;
import java.util.ArrayList;
import java.util.Arrays;
import java.util.List;
import java.util.TreeMap;

/** A second ledger, written from the document alone and with no eye to speed or room, to compare with. */
final class Reference {
    private final TreeMap<Integer, long[]> there = new TreeMap<>();
    private int collector;
    private List<byte[]> proof = new ArrayList<>();
    private Checked latest = new Checked(-1, 0, 0);

    /** What check() answers, and the nonce and the balance that it found. */
    record Checked(int answer, long nonce, long balance) {
    }

    boolean collector(int account) {
        if (isNoAccount(account)) {
            return false;
        }
        collector = account;
        return true;
    }

    int grant(int account, long amount) {
        if (isNoAccount(account) || amount < 1 || amount > 1000000000000L) {
            return -1;
        }
        TreeMap<Integer, long[]> after = copy();
        add(after, account, 0, amount);
        return become(after);
    }

    int send(int from, int to, long amount, long fee, int nonce) {
        if (isNoAccount(from) || isNoAccount(to) || amount < 0 || amount > 1000000000000L
                || fee < 0 || fee > 1000000000000L) {
            return -1;
        }
        if (nonce != nonce(from)) {
            return -2;
        }
        if (amount + fee > balance(from)) {
            return -3;
        }
        TreeMap<Integer, long[]> after = copy();
        add(after, from, 1, -amount - fee);
        add(after, to, 0, amount);
        add(after, collector, 0, fee);
        return become(after);
    }

    boolean close(int account) {
        return there.remove(account) != null;
    }

    int nonce(int account) {
        return (int) there.getOrDefault(account, new long[2])[0];
    }

    long balance(int account) {
        return there.getOrDefault(account, new long[2])[1];
    }

    int accounts() {
        return there.size();
    }

    long root(int k) {
        if (k < 0 || k > 3) {
            return 0;
        }
        return new BigInteger(Arrays.copyOfRange(root(), 8 * k, 8 * k + 8)).longValue();
    }

    int nodes(int kind) {
        if (kind < 0 || kind > 2) {
            return -1;
        }
        int[] counts = new int[3];
        if (!there.isEmpty()) {
            count(new ArrayList<>(there.keySet()), 0, counts);
        }
        return counts[kind];
    }

    int size() {
        return topCode().length;
    }

    int prove(int account) {
        if (isNoAccount(account)) {
            return -1;
        }
        proof = new ArrayList<>();
        proof.add(topCode());
        List<Integer> those = new ArrayList<>(there.keySet());
        int depth = 0;
        while (those.size() > 1) {
            int shared = shared(those, depth);
            int begin = depth;
            depth += shared == 0 ? 1 : shared;
            List<Integer> below = new ArrayList<>();
            for (int one : those) {
                if (path(one).substring(begin, depth).equals(path(account).substring(begin, depth))) {
                    below.add(one);
                }
            }
            those = below;
            if (!those.isEmpty() && code(node(those, depth)).length >= 32) {
                proof.add(code(node(those, depth)));
            }
        }
        return proof.size();
    }

    int parts() {
        return proof.size();
    }

    int length(int p) {
        return p < 0 || p >= proof.size() ? -1 : proof.get(p).length;
    }

    int part(int p, int i) {
        return i < 0 || i >= length(p) ? -1 : proof.get(p)[i] & 255;
    }

    boolean alter(int p, int i, int b) {
        int before = part(p, i);
        if (before < 0 || b < 0 || b > 255) {
            return false;
        }
        proof.get(p)[i] = (byte) b;
        return before != b;
    }

    int shorten() {
        if (proof.isEmpty()) {
            return -1;
        }
        proof.remove(proof.size() - 1);
        return proof.size();
    }

    int check(int account) {
        latest = isNoAccount(account) ? new Checked(-1, 0, 0) : check(proof, root(), account);
        return latest.answer();
    }

    long proven(int what) {
        if (latest.answer() != 1) {
            return 0;
        }
        return what == 0 ? latest.nonce() : what == 1 ? latest.balance() : 0;
    }

    // ---- accounts

    private static boolean isNoAccount(int account) {
        return account < 0 || account > 65535;
    }

    private static String path(int account) {
        return String.format("%04x", account);
    }

    private TreeMap<Integer, long[]> copy() {
        TreeMap<Integer, long[]> copy = new TreeMap<>();
        there.forEach((account, has) -> copy.put(account, has.clone()));
        return copy;
    }

    private static void add(TreeMap<Integer, long[]> to, int account, long nonces, long amount) {
        long[] has = to.computeIfAbsent(account, none -> new long[2]);
        has[0] += nonces;
        has[1] += amount;
    }

    private int become(TreeMap<Integer, long[]> after) {
        after.values().removeIf(has -> has[0] == 0 && has[1] == 0);
        if (after.size() > 12) {
            return -4;
        }
        there.clear();
        there.putAll(after);
        return there.size();
    }

    // ---- items and the tree; an item is a byte[] or a List of items

    static byte[] code(Object item) {
        ByteArrayOutputStream out = new ByteArrayOutputStream();
        if (item instanceof byte[] row) {
            if (row.length == 1 && row[0] >= 0) {
                return row;
            }
            head(out, 128, row.length);
            out.writeBytes(row);
        } else {
            ByteArrayOutputStream body = new ByteArrayOutputStream();
            for (Object inside : (List<?>) item) {
                body.writeBytes(code(inside));
            }
            head(out, 192, body.size());
            out.writeBytes(body.toByteArray());
        }
        return out.toByteArray();
    }

    private static void head(ByteArrayOutputStream out, int kind, int length) {
        if (length <= 55) {
            out.write(kind + length);
            return;
        }
        byte[] number = number(length);
        out.write(kind + 55 + number.length);
        out.writeBytes(number);
    }

    static byte[] number(long value) {
        if (value == 0) {
            return new byte[0];
        }
        byte[] signed = BigInteger.valueOf(value).toByteArray();
        return signed[0] == 0 ? Arrays.copyOfRange(signed, 1, signed.length) : signed;
    }

    static byte[] pack(String digits, boolean marked) {
        int f = marked ? 2 : 0;
        String all = digits.length() % 2 == 1
                ? Integer.toHexString(f + 1) + digits
                : Integer.toHexString(f) + "0" + digits;
        byte[] packed = new byte[all.length() / 2];
        for (int i = 0; i < packed.length; i++) {
            packed[i] = (byte) Integer.parseInt(all.substring(2 * i, 2 * i + 2), 16);
        }
        return packed;
    }

    private static int shared(List<Integer> those, int depth) {
        int shared = 0;
        while (depth + shared < 4) {
            char next = path(those.get(0)).charAt(depth + shared);
            for (int one : those) {
                if (path(one).charAt(depth + shared) != next) {
                    return shared;
                }
            }
            shared++;
        }
        return shared;
    }

    private static List<Integer> with(List<Integer> those, int depth, int digit) {
        List<Integer> with = new ArrayList<>();
        for (int one : those) {
            if (Character.digit(path(one).charAt(depth), 16) == digit) {
                with.add(one);
            }
        }
        return with;
    }

    private List<Object> node(List<Integer> those, int depth) {
        List<Object> node = new ArrayList<>();
        String digits = path(those.get(0)).substring(depth);
        if (those.size() == 1) {
            long[] has = there.get(those.get(0));
            node.add(pack(digits, true));
            node.add(code(List.of(number(has[0]), number(has[1]))));
            return node;
        }
        int shared = shared(those, depth);
        if (shared > 0) {
            node.add(pack(digits.substring(0, shared), false));
            node.add(referred(node(those, depth + shared)));
            return node;
        }
        for (int digit = 0; digit < 16; digit++) {
            List<Integer> below = with(those, depth, digit);
            node.add(below.isEmpty() ? new byte[0] : referred(node(below, depth + 1)));
        }
        node.add(new byte[0]);
        return node;
    }

    private static Object referred(List<Object> node) {
        byte[] code = code(node);
        return code.length >= 32 ? Keccak.hash(code) : node;
    }

    private void count(List<Integer> those, int depth, int[] counts) {
        if (those.size() == 1) {
            counts[0]++;
            return;
        }
        int shared = shared(those, depth);
        if (shared > 0) {
            counts[1]++;
            count(those, depth + shared, counts);
            return;
        }
        counts[2]++;
        for (int digit = 0; digit < 16; digit++) {
            List<Integer> below = with(those, depth, digit);
            if (!below.isEmpty()) {
                count(below, depth + 1, counts);
            }
        }
    }

    private byte[] topCode() {
        return there.isEmpty() ? new byte[] {(byte) 128} : code(node(new ArrayList<>(there.keySet()), 0));
    }

    private byte[] root() {
        return Keccak.hash(topCode());
    }

    // ---- checking

    /** An item as the document's CHECKING sees it: its bytes are those from bytes up to end. */
    private record Item(int begin, int bytes, int end) {
    }

    private static int at(byte[] part, int place) {
        return place < part.length ? part[place] & 255 : 0;
    }

    private static Item item(byte[] part, int place) {
        int b = at(part, place);
        if (b < 128) {
            return new Item(place, place, place + 1);
        }
        if (b <= 183) {
            return new Item(place, place + 1, place + 1 + b - 128);
        }
        if (b >= 192 && b <= 247) {
            return new Item(place, place + 1, place + 1 + b - 192);
        }
        return null;
    }

    private static BigInteger made(byte[] part, Item item) {
        BigInteger number = BigInteger.ZERO;
        for (int i = item.bytes(); i < item.end(); i++) {
            number = number.shiftLeft(8).or(BigInteger.valueOf(at(part, i)));
        }
        return number;
    }

    private static Checked ended(List<byte[]> parts, int p, Checked good) {
        return p == parts.size() - 1 ? good : new Checked(-1, 0, 0);
    }

    static Checked check(List<byte[]> parts, byte[] root, int account) {
        Checked notGood = new Checked(-1, 0, 0);
        Checked notFound = new Checked(0, 0, 0);
        if (parts.isEmpty() || !Arrays.equals(Keccak.hash(parts.get(0)), root)) {
            return notGood;
        }
        int p = 0;
        int place = 0;
        int depth = 0;
        while (true) {
            byte[] part = parts.get(p);
            int b = at(part, place);
            int items = place + (b == 248 ? 2 : b == 249 ? 3 : 1);
            int end = items + (b == 248 ? at(part, place + 1)
                    : b == 249 ? 256 * at(part, place + 1) + at(part, place + 2) : b - 192);
            Item first = b < 192 || b > 249 ? null : item(part, items);
            Item second = first == null ? null : item(part, first.end());
            if (second == null) {
                return ended(parts, p, notFound);
            }
            int next;
            if (second.end() == end) {
                StringBuilder digits = new StringBuilder();
                for (int i = first.bytes(); i < first.end(); i++) {
                    digits.append(String.format("%02x", at(part, i)));
                }
                if (digits.isEmpty()) {
                    return ended(parts, p, notFound);
                }
                int f = Character.digit(digits.charAt(0), 16);
                String own = digits.substring(f % 2 == 1 ? 1 : 2);
                if (!path(account).substring(depth).startsWith(own)) {
                    return ended(parts, p, notFound);
                }
                depth += own.length();
                if ((f & 2) == 2) {
                    return ended(parts, p, depth == 4 ? found(part, second.begin()) : notFound);
                }
                next = second.begin();
            } else {
                if (depth == 4) {
                    return ended(parts, p, notFound);
                }
                Item one = null;
                next = items;
                for (int i = 0; i < Character.digit(path(account).charAt(depth), 16); i++) {
                    one = item(part, next);
                    if (one == null) {
                        return ended(parts, p, notFound);
                    }
                    next = one.end();
                }
                depth++;
            }
            if (at(part, next) == 160) {
                byte[] hash = new byte[32];
                for (int i = 0; i < 32; i++) {
                    hash[i] = (byte) at(part, next + 1 + i);
                }
                if (p + 1 >= parts.size() || !Arrays.equals(Keccak.hash(parts.get(p + 1)), hash)) {
                    return notGood;
                }
                p++;
                place = 0;
            } else if (at(part, next) >= 192) {
                place = next;
            } else {
                return ended(parts, p, notFound);
            }
        }
    }

    private static Checked found(byte[] part, int value) {
        Item nonce = item(part, at(part, value) < 128 ? value + 1 : value + 2);
        Item balance = nonce == null ? null : item(part, nonce.end());
        return new Checked(1, nonce == null ? 0 : made(part, nonce).longValue(),
                balance == null ? 0 : made(part, balance).longValue());
    }
}
