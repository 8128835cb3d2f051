import java.util.ArrayList;
import java.util.List;

/**
 * All that the answers of a ledger tell of its state. Looking changes it (a check is done, a fee is paid to
 * see who the collector is), so it is made of a ledger that is not used any more, and compared with that of
 * another one that was made by the same calls.
 */
final class Snapshot {
    private Snapshot() {
    }

    /** The payer is one whose grant and whose fee make no 13th account. */
    static List<String> of(ProvenLedger x, int[] accounts, int payer) {
        List<String> seen = new ArrayList<>();
        add(seen, "proven(0)", x.proven(0));
        add(seen, "proven(1)", x.proven(1));
        seen.addAll(withoutProven(x, accounts, payer));
        return seen;
    }

    /** What of() tells, but for what the latest check() found. */
    static List<String> withoutProven(ProvenLedger x, int[] accounts, int payer) {
        List<String> seen = new ArrayList<>(ofProof(x));
        add(seen, "accounts()", x.accounts());
        addAccounts(seen, x, accounts);
        for (int k = 0; k < 4; k++) {
            add(seen, "root(" + k + ")", x.root(k));
        }
        for (int kind = 0; kind < 3; kind++) {
            add(seen, "nodes(" + kind + ")", x.nodes(kind));
        }
        add(seen, "size()", x.size());
        for (int account : accounts) {
            add(seen, "check(" + account + ")", x.check(account));
        }
        add(seen, "a grant", x.grant(payer, 1));
        add(seen, "a fee", x.send(payer, payer, 0, 1, x.nonce(payer)));
        addAccounts(seen, x, accounts);
        return seen;
    }

    /** The proof, byte by byte. */
    static List<String> ofProof(ProvenLedger x) {
        List<String> seen = new ArrayList<>();
        add(seen, "parts()", x.parts());
        for (int p = 0; p < x.parts(); p++) {
            int length = x.length(p);
            add(seen, "length(" + p + ")", length);
            for (int i = 0; i < length; i++) {
                add(seen, "part(" + p + ", " + i + ")", x.part(p, i));
            }
        }
        return seen;
    }

    private static void addAccounts(List<String> seen, ProvenLedger x, int[] accounts) {
        for (int account : accounts) {
            add(seen, "nonce(" + account + ")", x.nonce(account));
            add(seen, "balance(" + account + ")", x.balance(account));
        }
    }

    private static void add(List<String> seen, String call, long answer) {
        seen.add(call + " answered " + answer);
    }
}
