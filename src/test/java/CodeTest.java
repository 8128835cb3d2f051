import java.util.ArrayList;
import java.util.Arrays;
import java.util.List;

/**
 * The sentences of "Terms" on codes, numbers and digits, each with a test of its own, and then many codes
 * compared with the reference. What no ledger reaches in 512 calls is tried on the class inside.
 */
public final class CodeTest {
    private static final Due DUE = new Due("CodeTest");
    private static final int ROW = 128;
    private static final int LIST = 192;
    private static final long MOST = 1000000000000L;

    private CodeTest() {
    }

    public static void main(String[] args) {
        oneByteBelow128();
        shortRow();
        longRow();
        shortList();
        longList();
        number();
        valueWithNonce();
        valueWithBalance();
        marked();
        oddDigits();
        evenDigits();
        compare();
        DUE.end();
    }

    private static void oneByteBelow128() {
        DUE.sentence("of one byte below 128 that byte itself");
        rowIs("00", "00");
        rowIs("01", "01");
        rowIs("7f", "7f");
    }

    private static void shortRow() {
        DUE.sentence("of another row of n bytes, when n is at most 55, the byte 128 + n and the row");
        rowIs("80", "81 80");
        rowIs("ff", "81 ff");
        rowIs("", "80");
        rowIs("0000", "82 0000");
        rowIs("7f7f", "82 7f7f");
        rowIs("01".repeat(54), "b6" + "01".repeat(54));
        rowIs("01".repeat(55), "b7" + "01".repeat(55));
    }

    private static void longRow() {
        DUE.sentence("when n is greater, the byte 183 + k, n as k bytes (the fewest that hold it, the highest first)");
        rowIs("01".repeat(56), "b8 38" + "01".repeat(56));
        rowIs("01".repeat(255), "b8 ff" + "01".repeat(255));
        rowIs("01".repeat(256), "b9 0100" + "01".repeat(256));
        rowIs("01".repeat(257), "b9 0101" + "01".repeat(257));
        rowIs("01".repeat(512), "b9 0200" + "01".repeat(512));
    }

    private static void shortList() {
        DUE.sentence("Of a list: .. when n is at most 55, the byte 192 + n and the body");
        listIs("", "c0");
        listIs("00", "c1 00");
        listIs("80", "c1 80");
        listIs("01".repeat(54), "f6" + "01".repeat(54));
        listIs("01".repeat(55), "f7" + "01".repeat(55));
        ProvenLedger x = Ledgers.fork(5, 3);
        DUE.is("size() of a ledger with a body of 55 bytes", x.size(), 56);
        Ledgers.proofBegins(DUE, x, "f7 c7 823000 83c28001");
    }

    private static void longList() {
        DUE.sentence("Of a list: .. otherwise 247 + k, n as k bytes in the same way, and the body");
        listIs("01".repeat(56), "f8 38" + "01".repeat(56));
        listIs("01".repeat(255), "f8 ff" + "01".repeat(255));
        listIs("01".repeat(256), "f9 0100" + "01".repeat(256));
        listIs("01".repeat(257), "f9 0101" + "01".repeat(257));
        ProvenLedger x = Ledgers.fork(5, 4);
        DUE.is("size() of a ledger with a body of 56 bytes", x.size(), 58);
        Ledgers.proofBegins(DUE, x, "f838 c7 823000 83c28001");
    }

    private static void number() {
        DUE.sentence("A NUMBER is the row of its bytes, the highest first, the first one not 0 (no bytes for 0).");
        numberIs(0, "80");
        numberIs(1, "01");
        numberIs(127, "7f");
        numberIs(128, "81 80");
        numberIs(255, "81 ff");
        numberIs(256, "82 0100");
        numberIs(65535, "82 ffff");
        numberIs(65536, "83 010000");
        numberIs(0xffffffL, "83 ffffff");
        numberIs(0x1000000L, "84 01000000");
        numberIs(0xffffffffL, "84 ffffffff");
        numberIs(0x100000000L, "85 0100000000");
        numberIs(0xffffffffffL, "85 ffffffffff");
        numberIs(0x10000000000L, "86 010000000000");
        numberIs(512 * MOST, "87 01d1a94a200000");
        numberIs(Long.MAX_VALUE, "88 7fffffffffffffff");
    }

    private static void valueWithNonce() {
        DUE.sentence("Its VALUE is the code of the list of nonce and balance. (the nonce)");
        int[] nonces = {0, 1, 127, 128, 255, 256, 500};
        String[] codes = {
            "c8 8320ffff 83c28001", "c8 8320ffff 83c20101", "c8 8320ffff 83c27f01", "c9 8320ffff 84c3818001",
            "c9 8320ffff 84c381ff01", "ca 8320ffff 85c482010001", "ca 8320ffff 85c48201f401",
        };
        for (int i = 0; i < nonces.length; i++) {
            ProvenLedger x = Ledgers.of(0xffff, 1);
            for (int nonce = 0; nonce < nonces[i]; nonce++) {
                x.send(0xffff, 0xffff, 0, 0, nonce);
            }
            Ledgers.rootIs(DUE, "the nonce " + nonces[i], x, codes[i]);
        }
    }

    private static void valueWithBalance() {
        DUE.sentence("Its VALUE is the code of the list of nonce and balance. (the balance)");
        Ledgers.rootIs(DUE, "1", Ledgers.of(0xffff, 1), "c8 8320ffff 83c28001");
        Ledgers.rootIs(DUE, "127", Ledgers.of(0xffff, 127), "c8 8320ffff 83c2807f");
        Ledgers.rootIs(DUE, "128", Ledgers.of(0xffff, 128), "c9 8320ffff 84c3808180");
        Ledgers.rootIs(DUE, "255", Ledgers.of(0xffff, 255), "c9 8320ffff 84c38081ff");
        Ledgers.rootIs(DUE, "256", Ledgers.of(0xffff, 256), "ca 8320ffff 85c480820100");
        Ledgers.rootIs(DUE, "the most of a grant", Ledgers.of(0xffff, MOST), "cd 8320ffff 88c78085e8d4a51000");
        ProvenLedger none = new ProvenLedger();
        none.send(0xffff, 0xffff, 0, 0, 0);
        Ledgers.rootIs(DUE, "0", none, "c8 8320ffff 83c20180");
        ProvenLedger most = new ProvenLedger();
        for (int i = 0; i < 500; i++) {
            most.grant(0xffff, MOST);
        }
        Ledgers.rootIs(DUE, "500 grants", most, "cf 8320ffff 8ac9808701c6bf52634000");
    }

    private static void marked() {
        DUE.sentence("let f be 2 if marked, otherwise 0");
        digitsAre(0, 4, true, "83 20a7f3");
        digitsAre(0, 4, false, "83 00a7f3");
        digitsAre(0, 1, true, "3a");
        digitsAre(0, 1, false, "1a");
    }

    private static void oddDigits() {
        DUE.sentence("If their number is odd, the first byte is 16 * (f + 1) + the first digit");
        digitsAre(3, 4, true, "33");
        digitsAre(1, 4, true, "82 37f3");
        digitsAre(1, 2, false, "17");
        digitsAre(2, 3, false, "1f");
        digitsAre(0, 3, false, "82 1a7f");
        ProvenLedger.Code ends = new ProvenLedger.Code();
        ends.putDigits(0x0f0f, 0, 1, true);
        ends.putDigits(0x0f0f, 1, 2, true);
        ends.putDigits(0x0f0f, 2, 3, false);
        ends.putDigits(0x0f0f, 3, 4, false);
        same("the digits 0 and 15", ends, 0, Hex.bytes("30 3f 10 1f"));
    }

    private static void evenDigits() {
        DUE.sentence("if it is even, 16 * f; then the (other) digits in pairs");
        digitsAre(4, 4, true, "20");
        digitsAre(2, 4, true, "82 20f3");
        digitsAre(0, 2, false, "82 00a7");
        digitsAre(1, 3, false, "82 007f");
        digitsAre(2, 2, false, "00");
    }

    private static void compare() {
        DUE.sentence("The CODE of an item (compared with the reference)");
        for (int length : new int[] {0, 1, 2, 54, 55, 56, 57, 254, 255, 256, 257, 400}) {
            for (int first : new int[] {0, 1, 127, 128, 255}) {
                compareRow(length, first);
                compareList(length, first);
            }
        }
        for (int depth = 0; depth <= 4; depth++) {
            for (int end = depth; end <= 4; end++) {
                compareDigits(depth, end, true);
                compareDigits(depth, end, false);
            }
        }
    }

    private static void compareRow(int length, int first) {
        byte[] bytes = new byte[length];
        for (int i = 0; i < length; i++) {
            bytes[i] = (byte) (first + 3 * i);
        }
        same("a row of " + length + " bytes", coded(bytes, ROW), 0, Reference.code(bytes));
    }

    private static void compareList(int length, int item) {
        ProvenLedger.Code code = new ProvenLedger.Code();
        List<Object> items = new ArrayList<>();
        code.put(99);
        int mark = code.open();
        for (int i = 0; i < length; i++) {
            code.putNumber(item);
            items.add(Reference.number(item));
        }
        code.shut(mark, LIST);
        same("a list of " + length + " items", code, mark, Reference.code(items));
    }

    private static void compareDigits(int depth, int end, boolean marked) {
        ProvenLedger.Code code = new ProvenLedger.Code();
        code.putDigits(0xa7f3, depth, end, marked);
        same("the digits from " + depth + " to " + end, code, 0,
                Reference.code(Reference.pack("a7f3".substring(depth, end), marked)));
    }

    private static ProvenLedger.Code coded(byte[] bytes, int kind) {
        ProvenLedger.Code code = new ProvenLedger.Code();
        int mark = code.open();
        for (byte b : bytes) {
            code.put(b & 255);
        }
        code.shut(mark, kind);
        return code;
    }

    private static void rowIs(String row, String code) {
        byte[] bytes = Hex.bytes(row);
        same("a row of " + bytes.length + " bytes", coded(bytes, ROW), 0, Hex.bytes(code));
    }

    private static void listIs(String body, String code) {
        byte[] bytes = Hex.bytes(body);
        same("a list of " + bytes.length + " bytes", coded(bytes, LIST), 0, Hex.bytes(code));
    }

    private static void numberIs(long number, String want) {
        ProvenLedger.Code code = new ProvenLedger.Code();
        code.putNumber(number);
        same("the number " + number, code, 0, Hex.bytes(want));
    }

    /** The digits of account 0xa7f3 from one depth up to another. */
    private static void digitsAre(int depth, int end, boolean marked, String want) {
        ProvenLedger.Code code = new ProvenLedger.Code();
        code.putDigits(0xa7f3, depth, end, marked);
        same("the digits from " + depth + " to " + end, code, 0, Hex.bytes(want));
    }

    private static void same(String what, ProvenLedger.Code code, int begin, byte[] want) {
        int[] got = Arrays.copyOfRange(code.bytes(), begin, code.used());
        DUE.is(what + ", length", got.length, want.length);
        for (int i = 0; i < want.length && i < got.length; i++) {
            DUE.is(what + ", byte " + i, got[i], want[i] & 255);
        }
    }
}
