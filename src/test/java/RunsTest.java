import java.util.Random;
import java.util.function.BooleanSupplier;
import java.util.function.LongSupplier;

/** Runs of 512 mixed calls, each answered by the program and by the reference. The seeds are fixed. */
public final class RunsTest {
    private static final int RUNS = 1200;
    private static final int CALLS = 512;
    private static final long MOST = 1000000000000L;

    private final Due due;
    private final Random random;
    private final int[] known = new int[18];
    private final ProvenLedger ledger = new ProvenLedger();
    private final Reference reference = new Reference();
    private final int run;
    private int calls;

    private RunsTest(Due due, int run) {
        this.due = due;
        this.run = run;
        random = new Random(run);
        for (int i = 0; i < known.length; i++) {
            known[i] = someNeighbour(i);
        }
    }

    public static void main(String[] args) {
        Due due = new Due("RunsTest");
        for (int run = 0; run < RUNS; run++) {
            RunsTest one = new RunsTest(due, run);
            while (one.calls < CALLS) {
                one.step();
            }
        }
        due.end();
    }

    // What an object answers behind its last call is free, so it is not called any more.
    private void same(String call, LongSupplier answer, LongSupplier wanted) {
        if (calls < CALLS) {
            calls++;
            due.is("run " + run + ", call " + calls + ": " + call, answer.getAsLong(), wanted.getAsLong());
        }
    }

    private void same(String call, BooleanSupplier answer, BooleanSupplier wanted) {
        same(call, () -> answer.getAsBoolean() ? 1 : 0, () -> wanted.getAsBoolean() ? 1 : 0);
    }

    // Accounts that share digits with one another make stems and deep forks; others make wide ones.
    private int someNeighbour(int known) {
        if (known == 0 || random.nextInt(1 + run % 4) == 1) {
            return random.nextInt(65536);
        }
        int other = this.known[random.nextInt(known)];
        return other ^ 1 + random.nextInt(15) << 4 * random.nextInt(4);
    }

    private int account() {
        int kind = random.nextInt(40);
        if (kind == 0) {
            int[] edges = {-1, 0, 65535, 65536, Integer.MIN_VALUE, Integer.MAX_VALUE};
            return edges[random.nextInt(edges.length)];
        }
        return kind == 1 ? random.nextInt(65536) : known[random.nextInt(known.length)];
    }

    private long amount() {
        long[] edges = {-1, 0, 1, 127, 128, 255, 256, 65535, 65536, MOST - 1, MOST, MOST + 1};
        int kind = random.nextInt(3);
        return kind == 0 ? edges[random.nextInt(edges.length)] : random.nextLong(1L << 1 + random.nextInt(39));
    }

    private long within(int account) {
        long most = Math.min(reference.balance(account), MOST);
        return random.nextInt(4) == 0 ? most : random.nextLong(most + 1);
    }

    private void step() {
        switch (random.nextInt(20)) {
            case 0, 1, 2 -> grant();
            case 3, 4, 5 -> send();
            case 6 -> close(account());
            case 7 -> collector(account());
            case 8 -> accounts(account());
            case 9, 10 -> tree();
            case 11, 12, 13 -> prove(account());
            case 14 -> alter();
            case 15 -> same("shorten()", ledger::shorten, reference::shorten);
            default -> check(account());
        }
    }

    private void grant() {
        int account = account();
        long amount = amount();
        same("grant(" + account + ", " + amount + ")",
                () -> ledger.grant(account, amount), () -> reference.grant(account, amount));
    }

    private void send() {
        int from = account();
        int to = random.nextInt(6) == 0 ? from : account();
        boolean wild = random.nextInt(4) == 0;
        long amount = wild ? amount() : within(from);
        long fee = wild ? amount() : Math.max(0, Math.min(reference.balance(from) - amount, random.nextInt(3)));
        int nonce = random.nextInt(10) == 0 ? random.nextInt(4) - 1 : reference.nonce(from);
        same("send(" + from + ", " + to + ", " + amount + ", " + fee + ", " + nonce + ")",
                () -> ledger.send(from, to, amount, fee, nonce), () -> reference.send(from, to, amount, fee, nonce));
    }

    private void close(int account) {
        same("close(" + account + ")", () -> ledger.close(account), () -> reference.close(account));
    }

    private void collector(int account) {
        same("collector(" + account + ")", () -> ledger.collector(account), () -> reference.collector(account));
    }

    private void accounts(int account) {
        same("nonce(" + account + ")", () -> ledger.nonce(account), () -> reference.nonce(account));
        same("balance(" + account + ")", () -> ledger.balance(account), () -> reference.balance(account));
        same("accounts()", ledger::accounts, reference::accounts);
    }

    private void tree() {
        int k = random.nextInt(6) - 1;
        int kind = random.nextInt(5) - 1;
        same("root(" + k + ")", () -> ledger.root(k), () -> reference.root(k));
        same("nodes(" + kind + ")", () -> ledger.nodes(kind), () -> reference.nodes(kind));
        same("size()", ledger::size, reference::size);
    }

    // Now and then all bytes of the proof are compared, mostly only a few, so that calls are left for the rest.
    private void prove(int account) {
        same("prove(" + account + ")", () -> ledger.prove(account), () -> reference.prove(account));
        same("parts()", ledger::parts, reference::parts);
        boolean all = random.nextInt(12) == 0;
        for (int p = -1; p <= reference.parts(); p++) {
            int part = p;
            same("length(" + part + ")", () -> ledger.length(part), () -> reference.length(part));
            for (int i = -1; i <= reference.length(p); i++) {
                if (all || random.nextInt(30) == 0) {
                    part(p, i);
                }
            }
        }
        check(account);
    }

    private void part(int p, int i) {
        same("part(" + p + ", " + i + ")", () -> ledger.part(p, i), () -> reference.part(p, i));
    }

    private void alter() {
        int p = random.nextInt(4) - 1;
        int i = random.nextInt(60) - 1;
        int before = reference.part(p, i);
        alter(p, i, random.nextInt(258) - 1);
        part(p, i);
        check(account());
        if (random.nextBoolean()) {
            alter(p, i, before);
        }
    }

    private void alter(int p, int i, int b) {
        same("alter(" + p + ", " + i + ", " + b + ")", () -> ledger.alter(p, i, b), () -> reference.alter(p, i, b));
    }

    private void check(int account) {
        same("check(" + account + ")", () -> ledger.check(account), () -> reference.check(account));
        int what = random.nextInt(4) - 1;
        same("proven(" + what + ")", () -> ledger.proven(what), () -> reference.proven(what));
        same("proven(1)", () -> ledger.proven(1), () -> reference.proven(1));
    }
}
