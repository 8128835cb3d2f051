import java.nio.ByteBuffer;

/** Ledgers that several tests need, and what their trees and proofs are compared by. */
final class Ledgers {
    /** Accounts of which one is too small, one too large, and two far off. */
    static final int[] NO_ACCOUNTS = {-1, 65536, Integer.MIN_VALUE, Integer.MAX_VALUE};
    /** The accounts of deep(). */
    static final int[] DEEP = {0, 1, 0x10, 0x8000, 0x8001, 0x8002, 0x8010, 0x8100, 0xa000};

    private Ledgers() {
    }

    /** A ledger with grants, told as account, amount, account, amount .. */
    static ProvenLedger of(long... grants) {
        ProvenLedger x = new ProvenLedger();
        for (int i = 0; i + 1 < grants.length; i += 2) {
            x.grant((int) grants[i], grants[i + 1]);
        }
        return x;
    }

    /** A ledger with so many accounts, from 100 on, each with 1000. */
    static ProvenLedger filled(int accounts) {
        ProvenLedger x = new ProvenLedger();
        fill(x, accounts);
        return x;
    }

    static void fill(ProvenLedger x, int accounts) {
        for (int i = 0; i < accounts; i++) {
            x.grant(100 + i, 1000);
        }
    }

    /** A ledger with forks at all depths on the way to account 0x8001, each referred to by its hash. */
    static ProvenLedger deep() {
        return of(0, 1, 1, 1, 0x10, 1, 0x8000, 100, 0x8002, 100,
                0x8001, 500, 0x8010, 500, 0x8100, 500, 0xa000, 500);
    }

    /**
     * A fork over so many leaves of 8 bytes, the later ones of which are made longer by bytes of their
     * balance: with 5 leaves its code has 53 bytes and these, with 12 leaves 103 and these.
     */
    static ProvenLedger fork(int leaves, int moreBytes) {
        long[] balances = {1, 0x80, 0x100, 0x10000, 0x1000000, 0x7fffffffffL};
        ProvenLedger x = new ProvenLedger();
        int left = moreBytes;
        for (int digit = leaves - 1; digit >= 0; digit--) {
            int more = Math.min(left, balances.length - 1);
            x.grant(0x1000 * digit, balances[more]);
            left -= more;
        }
        return x;
    }

    /** The 17 items of a fork's code: those told, from a digit on, and no bytes for all others. */
    static String items(int firstDigit, String... nodes) {
        return "80".repeat(firstDigit) + String.join("", nodes) + "80".repeat(17 - firstDigit - nodes.length);
    }

    /** The root is the hash of the code of the node for all accounts. */
    static void rootIs(Due due, String what, ProvenLedger x, String code) {
        byte[] bytes = Hex.bytes(code);
        byte[] hash = Keccak.hash(bytes);
        due.is(what + ", size()", x.size(), bytes.length);
        for (int k = 0; k < 4; k++) {
            due.is(what + ", root(" + k + ")", x.root(k), ByteBuffer.wrap(hash).getLong(8 * k));
        }
    }

    /** Makes the proof for an account and compares its parts. */
    static void proofIs(Due due, String what, ProvenLedger x, int account, String... parts) {
        due.is(what + ", prove(" + account + ")", x.prove(account), parts.length);
        due.is(what + ", parts()", x.parts(), parts.length);
        for (int p = 0; p < parts.length; p++) {
            byte[] want = Hex.bytes(parts[p]);
            due.is(what + ", length(" + p + ")", x.length(p), want.length);
            for (int i = 0; i < want.length; i++) {
                due.is(what + ", part(" + p + ", " + i + ")", x.part(p, i), want[i] & 255);
            }
        }
        rootIs(due, what, x, parts[0]);
    }

    /** Makes the proof for account 0 and compares how part 0 begins, and the root with the hash of all of it. */
    static void proofBegins(Due due, ProvenLedger x, String code) {
        x.prove(0);
        byte[] want = Hex.bytes(code);
        for (int i = 0; i < want.length; i++) {
            due.is("part(0, " + i + ")", x.part(0, i), want[i] & 255);
        }
        StringBuilder all = new StringBuilder();
        for (int i = 0; i < x.length(0); i++) {
            all.append(Hex.text(x.part(0, i)));
        }
        rootIs(due, "the whole of part 0", x, all.toString());
    }

    static void nodesAre(Due due, String what, ProvenLedger x, int leaves, int stems, int forks) {
        due.is(what + ", leaves", x.nodes(0), leaves);
        due.is(what + ", stems", x.nodes(1), stems);
        due.is(what + ", forks", x.nodes(2), forks);
    }

    static void accountIs(Due due, String what, ProvenLedger x, int account, int nonce, long balance) {
        due.is(what + ", nonce(" + account + ")", x.nonce(account), nonce);
        due.is(what + ", balance(" + account + ")", x.balance(account), balance);
    }
}
