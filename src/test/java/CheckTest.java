import java.util.Arrays;
import java.util.List;

/**
 * The sentences of CHECKING, each with a test of its own, on proofs that no ledger makes. By the public calls
 * a proof is only good with the bytes of a real tree; here the root is the hash of whatever part 0 is.
 */
public final class CheckTest {
    private static final Due DUE = new Due("CheckTest");
    private static final int ACCOUNT = 0x1234;
    private static final String VALUE = " 83c20507 ";
    private static final String DIGITS = " 83201234 ";
    private static final String LEAF = "c8" + DIGITS + VALUE;
    private static final String LEAF_BEHIND_1 = "c7 823234" + VALUE;
    private static final String LEAF_BEHIND_12 = "c7 822034" + VALUE;
    private static final String LEAF_BEHIND_123 = "c5 34" + VALUE;
    private static final String LEAF_BEHIND_1234 = "c5 20" + VALUE;
    private static final String NO_HASH = "a0" + "00".repeat(32);
    private static final int[] UNREADABLE = {184, 185, 190, 191, 248, 249, 254, 255};

    private CheckTest() {
    }

    public static void main(String[] args) {
        bytesThatAPartHasNot();
        itemOfOneByte();
        itemOfARow();
        itemOfAList();
        itemThatCantBeRead();
        nodeOf192To247();
        nodeOf248();
        nodeOf249();
        nodeThatCantBeRead();
        noParts();
        anotherRoot();
        firstTwoItems();
        withoutBytes();
        numberOfDigits();
        moreThanFour();
        notTheAccountsDigit();
        markedAtDepth4();
        valueBelow128();
        valueOtherwise();
        numbersByTheirBytes();
        numbersThatCantBeRead();
        notMarked();
        forkAtDepth4();
        forkItem();
        oneBeforeItCantBeRead();
        goOnTo160();
        goOnTo192OrMore();
        goOnToAnyOther();
        endsInTheLastPart();
        random();
        DUE.end();
    }

    private static void bytesThatAPartHasNot() {
        DUE.sentence("(a byte that a part has not counts as 0 in this)");
        found("the balance is cut off", "c8" + DIGITS + "83c205", 5, 0);
        found("the last byte of the balance is cut off", "ca" + DIGITS + "85c4 05 8201", 5, 256);
        found("nonce and balance are cut off", "c8" + DIGITS + "83", 0, 0);
        found("a value below 128 and nothing behind it", "c5" + DIGITS + "05", 0, 0);
        found("the value is cut off", "c5" + DIGITS, 0, 0);
        check("digits are cut off, and are 0", 0x1200, "c5 832012", 1, 0, 0);
        check("digits are cut off, and are not the account's", 0x1201, "c5 832012", 0, 0, 0);
        notFound("no bytes at all", "");
        notFound("a list without its items", "c2");
        check("items are cut off, and are 0", 0xf234, "cc 8080", 0, 0, 0);
        found("a length of one byte, and an end beyond the part", "f838" + DIGITS + "b3c20507", 5, 7);
        found("a length of two bytes, and an end beyond the part", "f90038" + DIGITS + "b3c20507", 5, 7);
        hashIsCutOff();
    }

    private static void hashIsCutOff() {
        for (int nonce = 1; nonce < 128 * 128; nonce++) {
            byte[] leaf = Hex.bytes("c7 822034 83c2 0102");
            leaf[6] = (byte) (nonce / 128);
            leaf[7] = (byte) (nonce % 128);
            byte[] hash = Keccak.hash(leaf);
            if (hash[31] == 0) {
                byte[] stem = Arrays.copyOf(Hex.bytes("e4 820012 a0" + Hex.text(hash)), 36);
                check("a hash cut off behind", ACCOUNT, List.of(stem, leaf), 1, nonce / 128, nonce % 128);
                return;
            }
        }
        DUE.isTrue("a hash that ends with 0", false);
    }

    // An item is read right when the item behind it is found: here it is the one for the digit 2.
    private static void isPassed(String what, String item) {
        check(what + " as item 0", 0x2234, "cc" + item + "80" + LEAF_BEHIND_1, 1, 5, 7);
        check(what + " as item 1", 0x2234, "cc 80" + item + LEAF_BEHIND_1, 1, 5, 7);
        check(what + " as item 2", 0x3234, "cc 8080" + item + LEAF_BEHIND_1, 1, 5, 7);
    }

    private static void itemOfOneByte() {
        DUE.sentence("The ITEM at a place, by the byte b there: b itself for b below 128");
        isPassed("0", "00");
        isPassed("1", "01");
        isPassed("127", "7f");
    }

    private static void itemOfARow() {
        DUE.sentence("behind b a row of b - 128 bytes for 128 to 183 .. it ends behind these bytes");
        isPassed("128", "80");
        isPassed("129", "81ff");
        isPassed("182", "b6" + "ff".repeat(54));
        isPassed("183", "b7" + "ff".repeat(55));
    }

    private static void itemOfAList() {
        DUE.sentence("a list of b - 192 bytes for 192 to 247; it ends behind these bytes");
        isPassed("192", "c0");
        isPassed("193", "c1ff");
        isPassed("246", "f6" + "ff".repeat(54));
        isPassed("247", "f7" + "ff".repeat(55));
    }

    private static void itemThatCantBeRead() {
        DUE.sentence("for any other b it CAN'T BE READ");
        for (int b : UNREADABLE) {
            for (int length : new int[] {0, 1, 2, b - 128, b < 192 ? 0 : b - 192}) {
                String item = Hex.text(b) + "00".repeat(length) + LEAF_BEHIND_1;
                check(b + " as item 0", 0x1234, "cc" + item, 0, 0, 0);
                check(b + " as item 1", 0x2234, "cc 80" + item, 0, 0, 0);
                check(b + " as item 2", 0x3234, "cc 8080" + item, 0, 0, 0);
            }
        }
    }

    private static void nodeOf192To247() {
        DUE.sentence("The NODE at a place .. for 192 to 247 its items begin behind b and it ends b - 192 bytes further on");
        found("ordinary", LEAF, 5, 7);
        notFound("a byte too short", "c7" + DIGITS + VALUE);
        notFound("a byte too long", "c9" + DIGITS + VALUE);
        found("192, a fork whose items stand behind it", "c0 80" + LEAF_BEHIND_1, 5, 7);
        found("193", "c1 80" + LEAF_BEHIND_1, 5, 7);
        found("247, a leaf", "f7" + DIGITS + "b2c20507" + "00".repeat(47), 5, 7);
        found("247, a fork", "f7 80" + LEAF_BEHIND_1 + "80".repeat(46), 5, 7);
        notFound("246 for 55 bytes", "f6" + DIGITS + "b2c20507" + "00".repeat(47));
    }

    private static void nodeOf248() {
        DUE.sentence("for 248 they begin behind one more byte .. and it ends as many bytes further on as that byte says");
        found("a length of 8", "f808" + DIGITS + VALUE, 5, 7);
        notFound("a byte too short", "f807" + DIGITS + VALUE);
        notFound("a byte too long", "f809" + DIGITS + VALUE);
        found("a length of 0, a fork", "f800 80" + LEAF_BEHIND_1, 5, 7);
        found("a length of 56", "f838" + DIGITS + "b3c20507" + "00".repeat(48), 5, 7);
        found("a length of 255, a fork", "f8ff 80" + LEAF_BEHIND_1 + "80".repeat(246), 5, 7);
    }

    private static void nodeOf249() {
        DUE.sentence("for 249 behind two more .. or the two, the higher first");
        found("a length of 8", "f90008" + DIGITS + VALUE, 5, 7);
        notFound("a byte too short", "f90007" + DIGITS + VALUE);
        notFound("a byte too long", "f90009" + DIGITS + VALUE);
        notFound("256 bytes too long", "f90108" + DIGITS + VALUE);
        notFound("the lower byte first", "f90800" + DIGITS + VALUE);
        found("a length of 0, a fork", "f90000 80" + LEAF_BEHIND_1, 5, 7);
        found("a length of 65535, a fork", "f9ffff 80" + LEAF_BEHIND_1, 5, 7);
        String list = "f7" + "00".repeat(55);
        found("a length of 256, a fork", "f90100 80" + LEAF_BEHIND_1 + list.repeat(4) + "80".repeat(23), 5, 7);
    }

    private static void nodeThatCantBeRead() {
        DUE.sentence("for any other b it can't be read (the node)");
        for (int b : new int[] {0, 1, 127, 128, 183, 184, 190, 191, 250, 251, 254, 255}) {
            for (int bytes = 0; bytes <= 8; bytes++) {
                notFound("a fork behind " + b, Hex.text(b) + "00".repeat(bytes) + "80" + LEAF_BEHIND_1);
                String length = bytes == 0 ? "" : "00".repeat(bytes - 1) + "08";
                notFound("a leaf behind " + b, Hex.text(b) + length + DIGITS + VALUE);
            }
        }
    }

    private static void noParts() {
        DUE.sentence("The proof is NOT GOOD when it has no parts");
        DUE.is("no parts", follow(List.of(), Keccak.hash(new byte[0]), ACCOUNT).answer(), -1);
        DUE.is("no parts, an empty tree", follow(List.of(), Keccak.hash(Hex.bytes("80")), ACCOUNT).answer(), -1);
        DUE.is("one part", follow(List.of(Hex.bytes("80")), Keccak.hash(Hex.bytes("80")), ACCOUNT).answer(), 0);
    }

    private static void anotherRoot() {
        DUE.sentence("The proof is NOT GOOD when .. the hash of part 0 is not the root");
        byte[] leaf = Hex.bytes(LEAF);
        for (int i = 0; i < 32; i++) {
            byte[] root = Keccak.hash(leaf);
            DUE.is("the root", follow(List.of(leaf), root, ACCOUNT).answer(), 1);
            root[i] ^= (byte) (1 << i % 8);
            DUE.is("another bit in byte " + i, follow(List.of(leaf), root, ACCOUNT).answer(), -1);
        }
        byte[] stem = Hex.bytes("e4 820012" + Hex.hashOf(LEAF_BEHIND_12));
        byte[] below = Hex.bytes(LEAF_BEHIND_12);
        DUE.is("the hash of part 1", follow(List.of(stem, below), Keccak.hash(below), ACCOUNT).answer(), -1);
    }

    private static void firstTwoItems() {
        DUE.sentence("At a node that can't be read, or of which one of the first two items can't, the way ENDS.");
        notFound("the byte 128 of no accounts", "80");
        check("the byte 128 in part 0 of two", ACCOUNT, List.of(Hex.bytes("80"), Hex.bytes("80")), -1, 0, 0);
        for (int b : UNREADABLE) {
            String unread = Hex.text(b);
            check("item 0 is " + b + ", and is the account's", 0x0234, "cc" + unread + "00 80" + LEAF_BEHIND_1, 0, 0, 0);
            check("item 1 is " + b + ", and behind the account's", 0x0234, "cc" + LEAF_BEHIND_1 + unread, 0, 0, 0);
            check("item 2 is " + b + ", and behind the account's", 0x0234, "cc" + LEAF_BEHIND_1 + "80" + unread, 1, 5, 7);
            notFound("the digits are " + b, "c8" + unread + "201234" + VALUE);
            notFound("the value is " + b, "c8" + DIGITS + unread + "c20507");
        }
    }

    private static void withoutBytes() {
        DUE.sentence("the first item's bytes hold digits (without bytes the way ends)");
        notFound("an empty row before a value", "c5 80" + VALUE);
        notFound("an empty list before a value", "c5 c0" + VALUE);
        notFound("an empty row before a leaf with six digits", "cb 80 c9 8420001234" + VALUE);
        notFound("an empty row before a leaf with all digits", "ca 80" + LEAF);
        notFound("an empty list before a leaf with all digits", "ca c0" + LEAF);
        found("one byte before a leaf with all digits", "ca 00" + LEAF, 5, 7);
        found("one byte in a row", "cb 8100" + LEAF, 5, 7);
        found("one byte in a list", "cb c100" + LEAF, 5, 7);
        found("a list for a leaf's digits", "c8 c3201234" + VALUE, 5, 7);
    }

    private static void numberOfDigits() {
        DUE.sentence("they are as many as twice the bytes less 2, and 1 more if f is odd: .. from the second half on if f"
                + " is odd, else from the third");
        found("none", "ca 00" + LEAF, 5, 7);
        found("one", "c9 11" + LEAF_BEHIND_1, 5, 7);
        found("two", "cb 820012" + LEAF_BEHIND_12, 5, 7);
        found("three", "c9 821123" + LEAF_BEHIND_123, 5, 7);
        found("four", "ca 83001234" + LEAF_BEHIND_1234, 5, 7);
        found("the second half of an even f does not count", "cb 820f12" + LEAF_BEHIND_12, 5, 7);
        found("nor in a leaf", "c8 832f1234" + VALUE, 5, 7);
        found("none twice", "cc 00 ca 00" + LEAF, 5, 7);
        String deep = LEAF;
        for (int body = 10; body <= 55; body += 2) {
            deep = Hex.text(192 + body) + "00" + deep;
        }
        found("none many times", deep, 5, 7);
    }

    private static void moreThanFour() {
        DUE.sentence("If depth and their number together are more than 4 .. the way ends");
        found("4 at depth 0", LEAF, 5, 7);
        notFound("5 at depth 0", "c8 83312340" + VALUE);
        notFound("6 at depth 0", "c9 8420123400" + VALUE);
        found("3 at depth 1", "cf 80" + LEAF_BEHIND_1, 5, 7);
        notFound("4 at depth 1", "cf 80 c8 83202340" + VALUE);
        found("1 at depth 3", "c9 821123" + LEAF_BEHIND_123, 5, 7);
        notFound("2 at depth 3", "cb 821123 c7 822040" + VALUE);
        found("0 at depth 4", "ca 83001234" + LEAF_BEHIND_1234, 5, 7);
        notFound("1 at depth 4", "ca 83001234 c5 30" + VALUE);
        for (int digit = 0; digit < 16; digit++) {
            notFound("a stem's fifth digit", "e5 831123" + Hex.text(0x40 + digit) + NO_HASH);
        }
        notFound("108 at depth 0", "f83c b7 20" + "12".repeat(54) + VALUE);
    }

    private static void notTheAccountsDigit() {
        DUE.sentence("or one is not the account's digit at its depth, the way ends");
        for (String leaf : new String[] {"83200234", "83201334", "83201224", "83201235", "8320f234", "8320123f"}) {
            notFound("a leaf with " + leaf, "c8" + leaf + VALUE);
        }
        for (String stem : new String[] {"820002", "820022", "820011", "820013"}) {
            notFound("a stem with " + stem, "cb" + stem + LEAF_BEHIND_12);
            notFound("a stem with " + stem + " before a hash", "e4" + stem + NO_HASH);
        }
        for (String stem : new String[] {"10", "12", "1f"}) {
            notFound("a stem with " + stem, "c9" + stem + LEAF_BEHIND_1);
        }
        notFound("another digit in the leaf behind a stem", "cb 820012 c7 822035" + VALUE);
        check("the digit 0", 0x0000, "c8 83200000" + VALUE, 1, 5, 7);
        check("the digit 15", 0xffff, "c8 8320ffff" + VALUE, 1, 5, 7);
    }

    private static void markedAtDepth4() {
        DUE.sentence("Then, if f has the bit 2, the way ends, and if the depth is 4, the account is FOUND");
        for (int f : new int[] {2, 6, 10, 14}) {
            found("f is " + f + ", depth 4", "c8 83" + Hex.text(16 * f) + "1234" + VALUE, 5, 7);
            notFound("f is " + f + ", depth 2", "cb 82" + Hex.text(16 * f) + "12" + LEAF_BEHIND_12);
            notFound("f is " + f + ", depth 0", "cb 81" + Hex.text(16 * f) + LEAF);
            notFound("f is " + f + ", depth 2, a hash", "e4 82" + Hex.text(16 * f) + "12" + NO_HASH);
        }
        for (int f : new int[] {3, 7, 11, 15}) {
            found("f is " + f + ", depth 4", "c9 11 c7 82" + Hex.text(16 * f + 2) + "34" + VALUE, 5, 7);
            notFound("f is " + f + ", depth 3", "c9 82" + Hex.text(16 * f + 1) + "23" + LEAF_BEHIND_123);
        }
    }

    private static void valueBelow128() {
        DUE.sentence("with what the second item says: from the place right behind it on, if it is below 128");
        found("0", "c5" + DIGITS + "00 06 07", 6, 7);
        found("127", "c5" + DIGITS + "7f 06 07", 6, 7);
    }

    private static void valueOtherwise() {
        DUE.sentence("otherwise from the place two behind its beginning on");
        found("a row without bytes", "c5" + DIGITS + "80 ff 06 07", 6, 7);
        found("a row", "c8" + DIGITS + "83c20607", 6, 7);
        found("a list", "c8" + DIGITS + "c3c20607", 6, 7);
        found("a list without bytes", "c5" + DIGITS + "c0 ff 06 07", 6, 7);
    }

    private static void numbersByTheirBytes() {
        DUE.sentence("the number that is made by their bytes, the highest first, modulo 2^64");
        found("no bytes", "c8" + DIGITS + "83c28080", 0, 0);
        found("the bytes 0", "c8" + DIGITS + "83c20000", 0, 0);
        found("below 128", "c8" + DIGITS + "83c2017f", 1, 127);
        found("128", "ca" + DIGITS + "85c481808180", 128, 128);
        found("lists", "cb" + DIGITS + "86c5c20102c103", 258, 3);
        found("empty lists", "c8" + DIGITS + "83c2c0c0", 0, 0);
        found("a first byte of 0", "ca" + DIGITS + "85c482000107", 1, 7);
        found("7 bytes", "d0" + DIGITS + "8bca 87ffffffffffffff 8107", 0xffffffffffffffL, 7);
        found("8 bytes", "d1" + DIGITS + "8ccb 88ffffffffffffffff 8107", -1, 7);
        found("8 bytes of a balance", "d0" + DIGITS + "8bca 05 888000000000000000", 5, Long.MIN_VALUE);
        found("9 bytes", "d1" + DIGITS + "8ccb 898877665544332211aa 07", 0x77665544332211aaL, 7);
        found("9 bytes, 2^64", "d1" + DIGITS + "8ccb 07 89010000000000000000", 7, 0);
        found("a row of 55 bytes", "c8" + DIGITS + "83ff b7" + "ff".repeat(47) + "0102030405060708 09",
                0x0102030405060708L, 9);
        found("a list of 55 bytes", "c8" + DIGITS + "83ff f7" + "ff".repeat(47) + "0102030405060708 09",
                0x0102030405060708L, 9);
    }

    private static void numbersThatCantBeRead() {
        DUE.sentence("(0 if an item can't be read, or the one before it)");
        for (int b : UNREADABLE) {
            found("the nonce is " + b, "c8" + DIGITS + "83c2" + Hex.text(b) + "07 07 07", 0, 0);
            found("the balance is " + b, "c8" + DIGITS + "83c205" + Hex.text(b) + "07 07 07", 5, 0);
        }
    }

    private static void notMarked() {
        DUE.sentence("If f has not the bit 2, the way goes on to the second item.");
        for (int f : new int[] {0, 4, 8, 12}) {
            found("f is " + f, "cb 82" + Hex.text(16 * f) + "12" + LEAF_BEHIND_12, 5, 7);
            notFound("f is " + f + ", all digits and a value", "c8 83" + Hex.text(16 * f) + "1234" + VALUE);
            check("f is " + f + ", a hash", ACCOUNT, "e4 82" + Hex.text(16 * f) + "12" + NO_HASH, -1, 0, 0);
        }
        for (int f : new int[] {1, 5, 9, 13}) {
            found("f is " + f, "c9 82" + Hex.text(16 * f + 1) + "23" + LEAF_BEHIND_123, 5, 7);
        }
    }

    private static void forkAtDepth4() {
        DUE.sentence("If the second item ends elsewhere: at depth 4 the way ends");
        notFound("at depth 4", "e8 83001234 e3" + NO_HASH + "80 80");
        notFound("at depth 4, a leaf in it", "ef 83001234 ea" + LEAF_BEHIND_1234.repeat(7));
        found("at depth 3", "da 821123 d6" + Ledgers.items(4, LEAF_BEHIND_1234), 5, 7);
    }

    private static void forkItem() {
        DUE.sentence("it goes on to the item that the account's digit at the depth numbers (0 the first ..),"
                + " and the depth grows by 1");
        for (int digit = 0; digit < 16; digit++) {
            String fork = "d8" + Ledgers.items(digit, LEAF_BEHIND_1);
            for (int wanted = 0; wanted < 16; wanted++) {
                int answer = wanted == digit ? 1 : 0;
                check("item " + digit, 0x1000 * wanted + 0x234, fork, answer, 5 * answer, 7 * answer);
            }
        }
        notFound("the depth grows by 1 alone", "d6" + Ledgers.items(1, LEAF_BEHIND_1234));
        notFound("the depth does grow", "d9" + Ledgers.items(1, LEAF));
    }

    private static void oneBeforeItCantBeRead() {
        DUE.sentence("(.. if one before it can't be read, it ends)");
        for (int b : UNREADABLE) {
            String fork = "cc 8080" + Hex.text(b) + "80" + LEAF_BEHIND_1 + LEAF_BEHIND_1;
            check("item 2 is " + b + ", item 3 is wanted", 0x3234, fork, 0, 0, 0);
            check("item 2 is " + b + ", item 4 is wanted", 0x4234, fork, 0, 0, 0);
            String hash = "cc 8080" + Hex.text(b) + NO_HASH;
            check("item 2 is " + b + ", a hash behind it", 0x3234, hash, 0, 0, 0);
        }
    }

    private static void goOnTo160() {
        DUE.sentence("To GO ON to an item that begins with the byte 160: if there is a next part and its hash is the 32"
                + " bytes behind that byte, on to the node at place 0 of that part; if not, the proof is not good.");
        byte[] leaf = Hex.bytes(LEAF_BEHIND_12);
        byte[] stem = Hex.bytes("e4 820012" + Hex.hashOf(LEAF_BEHIND_12));
        check("two parts", ACCOUNT, List.of(stem, leaf), 1, 5, 7);
        check("there is no next part", ACCOUNT, List.of(stem), -1, 0, 0);
        check("there is no next part, and the hash is that of no bytes", ACCOUNT, "e4 820012" + Hex.hashOf(""), -1, 0, 0);
        check("another next part", ACCOUNT, List.of(stem, stem), -1, 0, 0);
        check("the right part behind another one", ACCOUNT, List.of(stem, stem, leaf), -1, 0, 0);
        for (int i = 4; i < 36; i++) {
            byte[] spoilt = stem.clone();
            spoilt[i + 1] ^= (byte) (1 << i % 8);
            check("another bit in byte " + i, ACCOUNT, List.of(spoilt, leaf), -1, 0, 0);
        }
        byte[] below = Hex.bytes(LEAF_BEHIND_1);
        byte[] fork = Hex.bytes("f1 80" + Hex.hashOf(LEAF_BEHIND_1) + "80".repeat(15));
        check("from a fork", ACCOUNT, List.of(fork, below), 1, 5, 7);
        check("from a fork, no next part", ACCOUNT, List.of(fork), -1, 0, 0);
        check("a part that can't be read", ACCOUNT,
                List.of(Hex.bytes("e4 820012" + Hex.hashOf("80")), Hex.bytes("80")), 0, 0, 0);
    }

    private static void goOnTo192OrMore() {
        DUE.sentence("With one that begins with 192 or more: on to the node at that place.");
        found("192, a fork whose items stand behind it", "c4 820012 c0 80 80 80 c5 34" + VALUE, 5, 7);
        found("a list", "cb 820012" + LEAF_BEHIND_12, 5, 7);
        check("247", 0x2234, "cc 8080 f7 823234 b3c20507", 1, 5, 7);
        check("248", 0x2234, "cc 8080 f807 823234" + VALUE, 1, 5, 7);
        check("249", 0x2234, "cc 8080 f90007 823234" + VALUE, 1, 5, 7);
        check("250, which can't be read", 0x2234, "cc 8080 fa000007 823234" + VALUE, 0, 0, 0);
        check("255, which can't be read", 0x2234, "cc 8080 ff 823234" + VALUE, 0, 0, 0);
    }

    private static void goOnToAnyOther() {
        DUE.sentence("With any other: the way ends.");
        for (int b : new int[] {0, 5, 127, 128, 129, 159, 161, 183}) {
            String item = Hex.text(b) + (b < 128 ? "" : "00".repeat(b - 128));
            String length = Hex.text(3 + Hex.bytes(item).length);
            notFound("a stem, on to " + b, "f8" + length + "820012" + item);
            check("a fork, on to " + b, 0x2234, "cc 8080" + item + LEAF_BEHIND_1, 0, 0, 0);
        }
        for (int b : new int[] {184, 190, 191}) {
            check("a fork, on to " + b, 0x2234, "cc 8080" + Hex.text(b) + "80" + LEAF_BEHIND_1, 0, 0, 0);
        }
        String hash = Hex.text(Keccak.hash(Hex.bytes(LEAF_BEHIND_12)));
        for (String stem : new String[] {"e3 820012 9f" + hash, "e5 820012 a1" + hash + "00"}) {
            notFound("a hash, but not behind 160", stem);
            check("a hash, but not behind 160, and its part", ACCOUNT,
                    List.of(Hex.bytes(stem), Hex.bytes(LEAF_BEHIND_12)), -1, 0, 0);
        }
    }

    private static void endsInTheLastPart() {
        DUE.sentence("When the way ends in the last part, the proof is GOOD; in one before it, it is not.");
        byte[] leaf = Hex.bytes(LEAF_BEHIND_12);
        byte[] stem = Hex.bytes("e4 820012" + Hex.hashOf(LEAF_BEHIND_12));
        check("found in the last part", ACCOUNT, List.of(stem, leaf), 1, 5, 7);
        check("not found in the last part", 0x1235, List.of(stem, leaf), 0, 0, 0);
        check("ended in the part before it", 0x1334, List.of(stem, leaf), -1, 0, 0);
        check("ended in the only part", 0x1334, List.of(stem), 0, 0, 0);
        check("found before the last part", ACCOUNT, List.of(Hex.bytes(LEAF), leaf), -1, 0, 0);
        check("a part more", ACCOUNT, List.of(stem, leaf, leaf), -1, 0, 0);
        check("a part more without bytes", ACCOUNT, List.of(stem, leaf, new byte[0]), -1, 0, 0);
        check("not found, and a part more", 0x1235, List.of(stem, leaf, leaf), -1, 0, 0);
        check("a last part without bytes", ACCOUNT,
                List.of(Hex.bytes("e4 820012" + Hex.hashOf("")), new byte[0]), 0, 0, 0);
    }

    private static void random() {
        DUE.sentence("CHECKING the proof for an account looks at its bytes alone (compared with the reference)");
        int[] answers = new int[3];
        for (int seed = 0; seed < 50000; seed++) {
            ProofMaker maker = new ProofMaker(seed);
            List<byte[]> parts = maker.parts();
            byte[] root = Keccak.hash(parts.get(0));
            Reference.Checked want = Reference.check(parts, root, maker.account());
            Reference.Checked got = follow(parts, root, maker.account());
            DUE.is("seed " + seed, got.answer(), want.answer());
            answers[want.answer() + 1]++;
            if (want.answer() == 1) {
                DUE.is("nonce of seed " + seed, got.nonce(), want.nonce());
                DUE.is("balance of seed " + seed, got.balance(), want.balance());
            }
        }
        for (int answer = -1; answer <= 1; answer++) {
            DUE.isTrue("many answers " + answer + ": " + answers[answer + 1], answers[answer + 1] > 2000);
        }
    }

    private static void found(String what, String part, long nonce, long balance) {
        check(what, ACCOUNT, part, 1, nonce, balance);
    }

    private static void notFound(String what, String part) {
        check(what, ACCOUNT, part, 0, 0, 0);
    }

    private static void check(String what, int account, String part, int answer, long nonce, long balance) {
        check(what, account, List.of(Hex.bytes(part)), answer, nonce, balance);
    }

    private static void check(String what, int account, List<byte[]> parts, int answer, long nonce, long balance) {
        byte[] root = Keccak.hash(parts.get(0));
        Reference.Checked got = follow(parts, root, account);
        DUE.is(what, got.answer(), answer);
        if (answer == 1) {
            DUE.is(what + ", nonce", got.nonce(), nonce);
            DUE.is(what + ", balance", got.balance(), balance);
        }
        DUE.is(what + ", reference", Reference.check(parts, root, account).answer(), answer);
    }

    // Bytes of an earlier proof lie behind those of a shorter one: they must not count.
    private static Reference.Checked follow(List<byte[]> parts, byte[] root, int account) {
        ProvenLedger.Proof proof = new ProvenLedger.Proof();
        int[] rubbish = new int[404];
        Arrays.fill(rubbish, 0xc8);
        for (int p = 0; p < 5; p++) {
            proof.add(rubbish, 0, rubbish.length);
        }
        proof.clear();
        for (byte[] part : parts) {
            proof.add(Hex.row(part), 0, part.length);
        }
        ProvenLedger.Way way = new ProvenLedger.Way(proof, new ProvenLedger.Hasher());
        int answer = way.follow(account, Hex.row(root));
        return new Reference.Checked(answer, way.foundNonce(), way.foundBalance());
    }
}
