import java.util.Random;

/** Long runs of mixed calls, each answered by the program and by the reference. The seeds are fixed. */
public final class RunsTest {
    private static final int RUNS = 120;
    private static final int CALLS = 512;

    private final Due due;
    private final Random random;
    private final int[] known = new int[18];
    private final ProvenLedger ledger = new ProvenLedger();
    private final Reference reference = new Reference();
    private final int run;

    private RunsTest(Due due, int run) {
        this.due = due;
        this.run = run;
        random = new Random(run);
        for (int i = 0; i < known.length; i++) {
            known[i] = someNeighbour(i);
        }
    }

    public static void main(String[] args) {
        Due due = new Due("RunsTest");
        for (int run = 0; run < RUNS; run++) {
            RunsTest one = new RunsTest(due, run);
            for (int call = 0; call < CALLS; call++) {
                one.call(call);
            }
        }
        due.end();
    }

    // Accounts that share digits with one another make stems and deep forks; others make wide ones.
    private int someNeighbour(int known) {
        if (known == 0 || random.nextInt(1 + run % 4) == 1) {
            return random.nextInt(65536);
        }
        int other = this.known[random.nextInt(known)];
        return other ^ 1 + random.nextInt(15) << 4 * random.nextInt(4);
    }

    private int account() {
        int kind = random.nextInt(40);
        if (kind == 0) {
            int[] edges = {-1, 0, 65535, 65536, Integer.MIN_VALUE, Integer.MAX_VALUE};
            return edges[random.nextInt(edges.length)];
        }
        return kind == 1 ? random.nextInt(65536) : known[random.nextInt(known.length)];
    }

    private long amount() {
        long[] edges = {-1, 0, 1, 127, 128, 255, 256, 65535, 65536, 999999999999L, 1000000000000L, 1000000000001L};
        int kind = random.nextInt(3);
        return kind == 0 ? edges[random.nextInt(edges.length)] : random.nextLong(1L << 1 + random.nextInt(39));
    }

    private long within(int account) {
        long most = Math.min(reference.balance(account), 1000000000000L);
        return random.nextInt(4) == 0 ? most : random.nextLong(most + 1);
    }

    private void call(int n) {
        String at = "run " + run + ", call " + n + ": ";
        switch (random.nextInt(20)) {
            case 0, 1, 2 -> grant(at);
            case 3, 4, 5 -> send(at);
            case 6 -> {
                int account = account();
                due.is(at + "close(" + account + ")", bit(ledger.close(account)), bit(reference.close(account)));
            }
            case 7 -> {
                int account = account();
                due.is(at + "collector(" + account + ")",
                        bit(ledger.collector(account)), bit(reference.collector(account)));
            }
            case 8 -> {
                int account = account();
                due.is(at + "nonce(" + account + ")", ledger.nonce(account), reference.nonce(account));
                due.is(at + "balance(" + account + ")", ledger.balance(account), reference.balance(account));
                due.is(at + "accounts()", ledger.accounts(), reference.accounts());
            }
            case 9, 10 -> tree(at);
            case 11, 12, 13 -> prove(at);
            case 14 -> alter(at);
            case 15 -> due.is(at + "shorten()", ledger.shorten(), reference.shorten());
            default -> check(at, account());
        }
    }

    private void grant(String at) {
        int account = account();
        long amount = amount();
        due.is(at + "grant(" + account + ", " + amount + ")",
                ledger.grant(account, amount), reference.grant(account, amount));
    }

    private void send(String at) {
        int from = account();
        int to = random.nextInt(6) == 0 ? from : account();
        boolean wild = random.nextInt(4) == 0;
        long amount = wild ? amount() : within(from);
        long fee = wild ? amount() : Math.max(0, Math.min(reference.balance(from) - amount, random.nextInt(3)));
        int nonce = random.nextInt(10) == 0 ? random.nextInt(4) - 1 : reference.nonce(from);
        due.is(at + "send(" + from + ", " + to + ", " + amount + ", " + fee + ", " + nonce + ")",
                ledger.send(from, to, amount, fee, nonce), reference.send(from, to, amount, fee, nonce));
    }

    private void tree(String at) {
        for (int k = -1; k <= 4; k++) {
            due.is(at + "root(" + k + ")", ledger.root(k), reference.root(k));
            due.is(at + "nodes(" + k + ")", ledger.nodes(k), reference.nodes(k));
        }
        due.is(at + "size()", ledger.size(), reference.size());
    }

    private void prove(String at) {
        int account = account();
        due.is(at + "prove(" + account + ")", ledger.prove(account), reference.prove(account));
        due.is(at + "parts()", ledger.parts(), reference.parts());
        for (int p = -1; p <= reference.parts(); p++) {
            due.is(at + "length(" + p + ")", ledger.length(p), reference.length(p));
            for (int i = -1; i <= reference.length(p); i++) {
                due.is(at + "part(" + p + ", " + i + ")", ledger.part(p, i), reference.part(p, i));
            }
        }
        check(at, account);
    }

    private void alter(String at) {
        int p = random.nextInt(4) - 1;
        int i = random.nextInt(60) - 1;
        int b = random.nextInt(258) - 1;
        int before = reference.part(p, i);
        due.is(at + "alter(" + p + ", " + i + ", " + b + ")",
                bit(ledger.alter(p, i, b)), bit(reference.alter(p, i, b)));
        due.is(at + "part(" + p + ", " + i + ")", ledger.part(p, i), reference.part(p, i));
        check(at, account());
        if (random.nextBoolean()) {
            due.is(at + "alter back", bit(ledger.alter(p, i, before)), bit(reference.alter(p, i, before)));
        }
    }

    private void check(String at, int account) {
        due.is(at + "check(" + account + ")", ledger.check(account), reference.check(account));
        for (int what = -1; what <= 2; what++) {
            due.is(at + "proven(" + what + ")", ledger.proven(what), reference.proven(what));
        }
    }

    private static int bit(boolean answer) {
        return answer ? 1 : 0;
    }
}
