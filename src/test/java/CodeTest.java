import java.util.ArrayList;
import java.util.Arrays;
import java.util.List;

/** The codes of rows, lists, numbers and digits, compared with the reference and with some written out. */
public final class CodeTest {
    private static final Due DUE = new Due("CodeTest");
    private static final int ROW = 128;
    private static final int LIST = 192;

    private CodeTest() {
    }

    public static void main(String[] args) {
        for (int length : new int[] {0, 1, 2, 54, 55, 56, 57, 254, 255, 256, 257, 400}) {
            for (int first : new int[] {0, 1, 127, 128, 255}) {
                row(length, first);
                list(length, first);
            }
        }
        for (long number : new long[] {0, 1, 127, 128, 255, 256, 65535, 65536, 1000000000000L, Long.MAX_VALUE}) {
            number(number);
        }
        for (int depth = 0; depth <= 4; depth++) {
            for (int end = depth; end <= 4; end++) {
                digits(depth, end, true);
                digits(depth, end, false);
            }
        }
        written();
        DUE.end();
    }

    private static byte[] bytes(int length, int first) {
        byte[] bytes = new byte[length];
        for (int i = 0; i < length; i++) {
            bytes[i] = (byte) (first + 3 * i);
        }
        return bytes;
    }

    private static void row(int length, int first) {
        byte[] bytes = bytes(length, first);
        ProvenLedger.Code code = new ProvenLedger.Code();
        int mark = code.open();
        for (byte b : bytes) {
            code.put(b & 255);
        }
        code.shut(mark, ROW);
        same("a row of " + length + " bytes", code, mark, Reference.code(bytes));
    }

    private static void list(int length, int item) {
        ProvenLedger.Code code = new ProvenLedger.Code();
        List<Object> items = new ArrayList<>();
        code.put(99);
        int mark = code.open();
        for (int i = 0; i < length; i++) {
            code.putNumber(item);
            items.add(Reference.number(item));
        }
        code.shut(mark, LIST);
        same("a list of " + length + " items", code, mark, Reference.code(items));
    }

    private static void number(long number) {
        ProvenLedger.Code code = new ProvenLedger.Code();
        code.putNumber(number);
        same("the number " + number, code, 0, Reference.code(Reference.number(number)));
    }

    private static void digits(int depth, int end, boolean marked) {
        ProvenLedger.Code code = new ProvenLedger.Code();
        code.putDigits(0xa7f3, depth, end, marked);
        same("the digits from " + depth + " to " + end, code, 0,
                Reference.code(Reference.pack("a7f3".substring(depth, end), marked)));
    }

    private static void written() {
        ProvenLedger.Code code = new ProvenLedger.Code();
        code.putNumber(0);
        code.putNumber(127);
        code.putNumber(128);
        code.putNumber(1024);
        code.putDigits(0x1234, 0, 4, true);
        code.putDigits(0x1234, 1, 4, true);
        code.putDigits(0x1234, 3, 4, true);
        code.putDigits(0x1234, 4, 4, true);
        code.putDigits(0x1234, 0, 2, false);
        code.putDigits(0x1234, 0, 1, false);
        byte[] want = {
            -128, 127, -127, -128, -126, 4, 0,
            -125, 32, 18, 52, -126, 50, 52, 52, 32,
            -126, 0, 18, 17,
        };
        same("codes written out", code, 0, want);
    }

    private static void same(String what, ProvenLedger.Code code, int begin, byte[] want) {
        int[] got = Arrays.copyOfRange(code.bytes(), begin, code.used());
        DUE.is(what + ", length", got.length, want.length);
        for (int i = 0; i < want.length && i < got.length; i++) {
            DUE.is(what + ", byte " + i, got[i], want[i] & 255);
        }
    }
}
