import java.util.Arrays;
import java.util.HexFormat;
import java.util.List;

/**
 * Checking proofs that no ledger makes. By the public calls a proof is only good with the bytes of a real
 * tree; here the root is the hash of whatever part 0 is, so that every sentence of CHECKING is tried.
 */
public final class CheckTest {
    private static final Due DUE = new Due("CheckTest");
    private static final int ACCOUNT = 0x1234;
    private static final String VALUE = " 83c20507 ";
    private static final String LEAF = "c8 83201234" + VALUE;
    private static final String LEAF_BEHIND_1 = "c7 823234" + VALUE;
    private static final String LEAF_BEHIND_12 = "c7 822034" + VALUE;
    private static final String NO_HASH = "a0" + "00".repeat(32);

    private CheckTest() {
    }

    public static void main(String[] args) {
        leaves();
        unreadable();
        stems();
        forks();
        longNodes();
        values();
        severalParts();
        cutHash();
        random();
        DUE.end();
    }

    private static void leaves() {
        found("ordinary", LEAF, 5, 7);
        notFound("another last digit", "c8 83201235" + VALUE);
        notFound("another first digit", "c8 83202234" + VALUE);
        notFound("two digits, depth 2", "c7 822012" + VALUE);
        notFound("three digits, depth 3", "c7 823123" + VALUE);
        notFound("five digits", "c8 83312340" + VALUE);
        notFound("six digits", "c9 8420123400" + VALUE);
        notFound("no digits, depth 0", "c5 20" + VALUE);
        notFound("no bytes for digits", "c5 80" + VALUE);
        notFound("an empty list for digits", "c5 c0" + VALUE);
        found("a list for digits", "c8 c3201234" + VALUE, 5, 7);
        found("f is 14", "c8 83e01234" + VALUE, 5, 7);
        found("f is 10", "c8 83a01234" + VALUE, 5, 7);
        found("the half behind an even f does not count", "c8 836f1234" + VALUE, 5, 7);
    }

    private static void unreadable() {
        notFound("no bytes at all", "");
        notFound("a node of 128", "80");
        notFound("a node of 191", "bf 83201234" + VALUE);
        notFound("a node of 250", "fa 83201234" + VALUE);
        notFound("a node of 255", "ff 83201234" + VALUE);
        notFound("an empty node", "c0");
        for (String b : new String[] {"b8", "bf", "f8", "ff"}) {
            notFound("first item " + b, "c8" + b + "201234" + VALUE);
            notFound("second item " + b, "c8 83201234" + b + "c20507");
        }
    }

    private static void stems() {
        found("two digits", "cb 820012" + LEAF_BEHIND_12, 5, 7);
        notFound("another digit", "cb 820013" + LEAF_BEHIND_12);
        notFound("another digit in the leaf", "cb 820012 c7 822035" + VALUE);
        found("one digit", "c9 11" + LEAF_BEHIND_1, 5, 7);
        notFound("one other digit", "c9 12" + LEAF_BEHIND_1);
        found("f is 11 in the leaf", "c9 11 c7 82b234" + VALUE, 5, 7);
        found("f is 13 in the stem", "ca 81d1" + LEAF_BEHIND_1, 5, 7);
        found("f is 4", "cb 824012" + LEAF_BEHIND_12, 5, 7);
        found("all digits", "ca 83001234 c5 20" + VALUE, 5, 7);
        notFound("digits behind the fourth", "ca 83001234 c5 34" + VALUE);
        notFound("five digits", "e5 83112340" + NO_HASH);
        found("no digits", "ca 00" + LEAF, 5, 7);
        found("no digits twice", "cc 00 ca 00" + LEAF, 5, 7);
        String deep = LEAF;
        for (int body = 10; body <= 55; body += 2) {
            deep = HexFormat.of().toHexDigits((byte) (192 + body)) + "00" + deep;
        }
        found("no digits many times", deep, 5, 7);
        for (String end : new String[] {"05", "80", "7f"}) {
            notFound("on to " + end, "c4 820012" + end);
        }
        notFound("on to a row", "c6 820012 820507");
        notFound("on to an empty list", "c4 820012 c0");
    }

    private static void forks() {
        found("the second item", "d8 80" + LEAF_BEHIND_1 + "80".repeat(15), 5, 7);
        notFound("a row there", "d1 80 80" + "80".repeat(15));
        notFound("the leaf elsewhere", "d8 80 80" + LEAF_BEHIND_1 + "80".repeat(14));
        check("the first item", 0x0234, "d8" + LEAF_BEHIND_1 + "80".repeat(16), 1, 5, 7);
        check("the last item", 0xf234, "d8" + "80".repeat(15) + LEAF_BEHIND_1 + "80", 1, 5, 7);
        found("behind the node's end", "c1 80" + LEAF_BEHIND_1, 5, 7);
        check("one before it can't be read", 0x4234, "cc 8080 b8 80" + LEAF_BEHIND_1, 0, 0, 0);
        check("a long list before it can't be read", 0x3234, "cc 8080 f8" + LEAF_BEHIND_1, 0, 0, 0);
        check("a long list itself is gone on to", 0x2234, "cc 8080 f807 823234" + VALUE, 1, 5, 7);
        check("an item that can't be read is no way", 0x2234, "cc 8080 b8 80" + LEAF_BEHIND_1, 0, 0, 0);
        check("lists and rows before it", 0x3234, "cc c20505 820505 05" + LEAF_BEHIND_1, 1, 5, 7);
        check("beyond the part all bytes are 0", 0xf234, "cc 8080", 0, 0, 0);
        found("a row of 55 bytes before it", "cc b7" + "05".repeat(55) + LEAF_BEHIND_1, 5, 7);
        found("a list of 55 bytes before it", "cc f7" + "05".repeat(55) + LEAF_BEHIND_1, 5, 7);
        found("an empty list, with items behind it", "c4 820012 c0 80 80 80 c5 34" + VALUE, 5, 7);
        notFound("at depth 4", "e8 83001234 e3" + NO_HASH + "80 80");
    }

    private static void longNodes() {
        found("one byte for the length", "f808 83201234" + VALUE, 5, 7);
        found("two bytes for the length", "f90008 83201234" + VALUE, 5, 7);
        notFound("three bytes for the length", "fa000008 83201234" + VALUE);
        notFound("a wrong length of one byte", "f809 83201234" + VALUE);
        notFound("a wrong length of two bytes", "f90108 83201234" + VALUE);
        notFound("the lower byte first", "f90800 83201234" + VALUE);
        notFound("a wrong short length", "c9 83201234" + VALUE);
        found("a length beyond the part", "f90038 83201234 b3c20507", 5, 7);
    }

    private static void values() {
        String digits = " 83201234 ";
        found("a byte below 128", "c5" + digits + "05 06 07", 6, 7);
        found("a byte below 128 and nothing behind", "c5" + digits + "05", 0, 0);
        found("an empty row", "c5" + digits + "80 ff 06 07", 6, 7);
        found("a list", "c8" + digits + "c3c20507", 5, 7);
        found("zeros", "c8" + digits + "83c28080", 0, 0);
        found("the nonce can't be read", "c8" + digits + "83c2b807", 0, 0);
        found("the balance can't be read", "c8" + digits + "83c205f8", 5, 0);
        found("lists for numbers", "cb" + digits + "86c5c20102c103", 258, 3);
        found("eight bytes", "d1" + digits + "8ccb 88ffffffffffffffff 8107", -1, 7);
        found("more than eight bytes", "d1" + digits + "8ccb 898877665544332211aa 07", 0x77665544332211aaL, 7);
        found("numbers beyond the part", "ca" + digits + "85c4 05 8201", 5, 256);
    }

    private static void severalParts() {
        byte[] leaf = bytes(LEAF_BEHIND_12);
        byte[] stem = bytes("e4 820012 a0" + HexFormat.of().formatHex(Keccak.hash(leaf)));
        check("two parts", ACCOUNT, List.of(stem, leaf), 1, 5, 7);
        check("another account in the last part", 0x1235, List.of(stem, leaf), 0, 0, 0);
        check("ended before the last part", 0x1334, List.of(stem, leaf), -1, 0, 0);
        check("the next part is missing", ACCOUNT, List.of(stem), -1, 0, 0);
        check("a part more", ACCOUNT, List.of(stem, leaf, leaf), -1, 0, 0);
        check("another next part", ACCOUNT, List.of(stem, stem), -1, 0, 0);
        check("found before the last part", ACCOUNT, List.of(bytes(LEAF), leaf), -1, 0, 0);
        check("no parts", ACCOUNT, List.of(), -1, 0, 0);
        byte[] other = Keccak.hash(leaf);
        DUE.is("another root", follow(List.of(stem, leaf), other, ACCOUNT).answer(), -1);
        byte[] nearly = Keccak.hash(stem);
        nearly[31] ^= 1;
        DUE.is("a root other in its last bit", follow(List.of(stem, leaf), nearly, ACCOUNT).answer(), -1);
        byte[] fork = bytes("f1 80 a0" + HexFormat.of().formatHex(Keccak.hash(bytes(LEAF_BEHIND_1))) + "80".repeat(15));
        check("from a fork", ACCOUNT, List.of(fork, bytes(LEAF_BEHIND_1)), 1, 5, 7);
        check("from a fork, another digit", 0x2234, List.of(fork), 0, 0, 0);
        check("a part that can't be read", ACCOUNT, List.of(bytes("e4 820012 a0"
                + HexFormat.of().formatHex(Keccak.hash(bytes("80")))), bytes("80")), 0, 0, 0);
    }

    // The bytes that a part has not count as 0 in a hash too.
    private static void cutHash() {
        for (int nonce = 1; nonce < 128 * 128; nonce++) {
            byte[] leaf = bytes("c7 822034 83c2 0102");
            leaf[6] = (byte) (nonce / 128);
            leaf[7] = (byte) (nonce % 128);
            byte[] hash = Keccak.hash(leaf);
            if (hash[31] == 0) {
                byte[] stem = Arrays.copyOf(bytes("e4 820012 a0" + HexFormat.of().formatHex(hash)), 36);
                check("a hash cut off behind", ACCOUNT, List.of(stem, leaf), 1, nonce / 128, nonce % 128);
                return;
            }
        }
        DUE.isTrue("a hash that ends with 0", false);
    }

    private static void random() {
        int[] answers = new int[3];
        for (int seed = 0; seed < 50000; seed++) {
            ProofMaker maker = new ProofMaker(seed);
            List<byte[]> parts = maker.parts();
            byte[] root = Keccak.hash(parts.get(0));
            Reference.Checked want = Reference.check(parts, root, maker.account());
            Reference.Checked got = follow(parts, root, maker.account());
            DUE.is("seed " + seed, got.answer(), want.answer());
            answers[want.answer() + 1]++;
            if (want.answer() == 1) {
                DUE.is("nonce of seed " + seed, got.nonce(), want.nonce());
                DUE.is("balance of seed " + seed, got.balance(), want.balance());
            }
        }
        for (int answer = -1; answer <= 1; answer++) {
            DUE.isTrue("many answers " + answer + ": " + answers[answer + 1], answers[answer + 1] > 2000);
        }
    }

    private static void found(String what, String part, long nonce, long balance) {
        check(what, ACCOUNT, part, 1, nonce, balance);
    }

    private static void notFound(String what, String part) {
        check(what, ACCOUNT, part, 0, 0, 0);
    }

    private static void check(String what, int account, String part, int answer, long nonce, long balance) {
        check(what, account, List.of(bytes(part)), answer, nonce, balance);
    }

    private static void check(String what, int account, List<byte[]> parts, int answer, long nonce, long balance) {
        byte[] root = parts.isEmpty() ? Keccak.hash(new byte[0]) : Keccak.hash(parts.get(0));
        Reference.Checked got = follow(parts, root, account);
        DUE.is(what, got.answer(), answer);
        if (answer == 1) {
            DUE.is(what + ", nonce", got.nonce(), nonce);
            DUE.is(what + ", balance", got.balance(), balance);
        }
        DUE.is(what + ", reference", Reference.check(parts, root, account).answer(), answer);
    }

    private static byte[] bytes(String hex) {
        return HexFormat.of().parseHex(hex.replace(" ", ""));
    }

    private static int[] row(byte[] bytes) {
        int[] row = new int[bytes.length];
        for (int i = 0; i < row.length; i++) {
            row[i] = bytes[i] & 255;
        }
        return row;
    }

    // Bytes of an earlier proof lie behind those of a shorter one: they must not count.
    private static Reference.Checked follow(List<byte[]> parts, byte[] root, int account) {
        ProvenLedger.Proof proof = new ProvenLedger.Proof();
        int[] rubbish = new int[404];
        Arrays.fill(rubbish, 0xc8);
        for (int p = 0; p < 5; p++) {
            proof.add(rubbish, 0, rubbish.length);
        }
        proof.clear();
        for (byte[] part : parts) {
            proof.add(row(part), 0, part.length);
        }
        ProvenLedger.Way way = new ProvenLedger.Way(proof, new ProvenLedger.Hasher());
        int answer = way.follow(account, row(root));
        return new Reference.Checked(answer, way.foundNonce(), way.foundBalance());
    }
}
