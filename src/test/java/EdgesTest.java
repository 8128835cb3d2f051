import java.util.HashSet;
import java.util.List;
import java.util.Set;

/**
 * The sentences of the promises that name a boundary case, each with a test of its own: the last value that
 * is taken and the first that is refused on each side, nothing there and all there. That a refused call
 * changes nothing is tried by RefusalTest.
 */
public final class EdgesTest {
    private static final Due DUE = new Due("EdgesTest");
    private static final int BAD = ProvenLedger.BAD;
    private static final long MOST = 1000000000000L;
    private static final int[] ACCOUNTS = {0, 1, 65534, 65535};
    private static final int ABSENT = 50000;
    private static final int OTHER_ABSENT = 60000;

    private EdgesTest() {
    }

    public static void main(String[] args) {
        mostCalls();
        newWithoutAccounts();
        newWithCollector0();
        newWithoutAProof();
        collectorFromNowOn();
        collectorAnswers();
        grantGrows();
        grantBadAccount();
        grantBadAmount();
        grantFull();
        sendAmong();
        sendSame();
        sendBadAccount();
        sendBadAmount();
        sendNonce();
        sendPoor();
        sendFull();
        closeIsNotThere();
        closeAnswers();
        nonce();
        balance();
        accounts();
        root();
        nodes();
        size();
        proveInPlace();
        proveAnswers();
        parts();
        length();
        part();
        alterBecomes();
        alterRefused();
        shorten();
        checkRootAsItIsNow();
        checkFound();
        checkBad();
        provenFound();
        provenAnotherNumber();
        provenNotFound();
        provenWithoutACheck();
        DUE.end();
    }

    private static void mostCalls() {
        DUE.sentence("An object is used for at most 512 calls after it has been made");
        ProvenLedger x = new ProvenLedger();
        for (int call = 1; call <= 508; call++) {
            x.grant(0x1234, MOST);
        }
        DUE.is("call 509", x.balance(0x1234), 508 * MOST);
        DUE.is("call 510", x.prove(0x1234), 1);
        DUE.is("call 511", x.check(0x1234), 1);
        DUE.is("call 512", x.proven(1), 508 * MOST);
        ProvenLedger sender = new ProvenLedger();
        for (int call = 1; call <= 509; call++) {
            sender.send(0x1234, 0x1234, 0, 0, call - 1);
        }
        DUE.is("call 510", sender.prove(0x1234), 1);
        DUE.is("call 511", sender.check(0x1234), 1);
        DUE.is("call 512", sender.proven(0), 509);
        ProvenLedger changing = Ledgers.filled(12);
        long first = changing.root(0);
        for (int call = 14; call <= 510; call += 3) {
            changing.close(111);
            changing.grant(111, 1000);
            DUE.is("call " + (call + 2), changing.root(0), first);
        }
        DUE.is("call 512", changing.prove(111), 2);
    }

    // ---- promise 1

    private static void newWithoutAccounts() {
        DUE.sentence("1: No account is there");
        ProvenLedger x = new ProvenLedger();
        DUE.is("accounts()", x.accounts(), 0);
        for (int account : ACCOUNTS) {
            Ledgers.accountIs(DUE, "new", x, account, 0, 0);
            DUE.isFalse("close(" + account + ")", x.close(account));
        }
        Ledgers.nodesAre(DUE, "new", x, 0, 0, 0);
        Ledgers.rootIs(DUE, "new", x, "80");
    }

    private static void newWithCollector0() {
        DUE.sentence("1: the collector is account 0");
        ProvenLedger x = Ledgers.of(7, 10);
        DUE.is("a fee", x.send(7, 7, 0, 3, 0), 2);
        Ledgers.accountIs(DUE, "the collector", x, 0, 0, 3);
    }

    private static void newWithoutAProof() {
        DUE.sentence("1: no proof");
        ProvenLedger earlier = Ledgers.of(7, 10);
        earlier.prove(7);
        earlier.check(7);
        ProvenLedger x = new ProvenLedger();
        DUE.is("it has its own accounts", x.accounts(), 0);
        DUE.is("parts()", x.parts(), 0);
        DUE.is("check(0)", x.check(0), BAD);
        provenIs("new", x, 0, 0);
    }

    // ---- promise 2

    private static void collectorFromNowOn() {
        DUE.sentence("2: The fees go to this account from now on.");
        ProvenLedger x = Ledgers.of(1, 100);
        x.send(1, 1, 0, 9, 0);
        DUE.isTrue("collector(65535)", x.collector(65535));
        DUE.is("it is not there by that", x.accounts(), 2);
        Ledgers.accountIs(DUE, "the fees before", x, 0, 0, 9);
        x.send(1, 1, 0, 4, 1);
        Ledgers.accountIs(DUE, "the fees since", x, 65535, 0, 4);
        Ledgers.accountIs(DUE, "the fees before", x, 0, 0, 9);
        x.close(65535);
        x.send(1, 1, 0, 5, 2);
        Ledgers.accountIs(DUE, "closed, it is still the collector", x, 65535, 0, 5);
    }

    private static void collectorAnswers() {
        DUE.sentence("2: Answers true; refused with false when account is not 0 .. 65535.");
        ProvenLedger x = new ProvenLedger();
        for (int account : ACCOUNTS) {
            DUE.isTrue("collector(" + account + ")", x.collector(account));
        }
        DUE.isTrue("collector(65535) again", x.collector(65535));
        for (int account : Ledgers.NO_ACCOUNTS) {
            DUE.isFalse("collector(" + account + ")", x.collector(account));
        }
    }

    // ---- promise 3

    private static void grantGrows() {
        DUE.sentence("3: The balance of an account grows by amount. Answers how many accounts are there then");
        ProvenLedger x = new ProvenLedger();
        DUE.is("the first", x.grant(5, 10), 1);
        DUE.is("the same", x.grant(5, 20), 1);
        DUE.is("a second", x.grant(6, 1), 2);
        Ledgers.accountIs(DUE, "two grants", x, 5, 0, 30);
        Ledgers.accountIs(DUE, "one grant", x, 6, 0, 1);
    }

    private static void grantBadAccount() {
        DUE.sentence("3: BAD when account is not 0 .. 65535");
        ProvenLedger x = new ProvenLedger();
        for (int i = 0; i < ACCOUNTS.length; i++) {
            DUE.is("grant(" + ACCOUNTS[i] + ", 1)", x.grant(ACCOUNTS[i], 1), i + 1);
        }
        for (int account : Ledgers.NO_ACCOUNTS) {
            DUE.is("grant(" + account + ", 1)", x.grant(account, 1), BAD);
        }
    }

    private static void grantBadAmount() {
        DUE.sentence("3: BAD when .. amount is not 1 .. 1000000000000");
        ProvenLedger x = new ProvenLedger();
        DUE.is("grant(3, 0)", x.grant(3, 0), BAD);
        DUE.is("grant(3, 1)", x.grant(3, 1), 1);
        DUE.is("grant(3, most)", x.grant(3, MOST), 1);
        for (long amount : new long[] {-1, MOST + 1, Long.MIN_VALUE, Long.MAX_VALUE}) {
            DUE.is("grant(3, " + amount + ")", x.grant(3, amount), BAD);
        }
        Ledgers.accountIs(DUE, "the least and the most", x, 3, 0, MOST + 1);
    }

    private static void grantFull() {
        DUE.sentence("3: FULL when 13 would be there");
        ProvenLedger x = Ledgers.filled(11);
        DUE.is("the 12th", x.grant(ABSENT, 1), 12);
        DUE.is("the 13th", x.grant(OTHER_ABSENT, 1), ProvenLedger.FULL);
        DUE.is("one of twelve", x.grant(ABSENT, 1), 12);
        x.close(100);
        DUE.is("another in place of a closed one", x.grant(OTHER_ABSENT, 1), 12);
        DUE.is("the closed one again", x.grant(100, 1), ProvenLedger.FULL);
    }

    // ---- promise 4

    private static void sendAmong() {
        DUE.sentence("4: the nonce of from grows by 1, amount and fee go from its balance, amount to .. to, fee to .. the"
                + " collector");
        ProvenLedger x = Ledgers.of(1, 1000);
        x.collector(9);
        DUE.is("send", x.send(1, 2, 300, 5, 0), 3);
        Ledgers.accountIs(DUE, "from", x, 1, 1, 695);
        Ledgers.accountIs(DUE, "to", x, 2, 0, 300);
        Ledgers.accountIs(DUE, "the collector", x, 9, 0, 5);
        DUE.is("all that it has", x.send(1, 2, 690, 5, 1), 3);
        Ledgers.accountIs(DUE, "from, there by its nonce", x, 1, 2, 0);
        DUE.is("nothing, from one that is not there", x.send(77, 78, 0, 0, 0), 4);
        Ledgers.accountIs(DUE, "from", x, 77, 1, 0);
        Ledgers.accountIs(DUE, "to", x, 78, 0, 0);
    }

    private static void sendSame() {
        DUE.sentence("4: (some of the three may be the same)");
        sendOnce("from is to", 1, 1, 9, 10, 3, 97);
        sendOnce("from is the collector", 1, 2, 1, 10, 3, 90);
        sendOnce("to is the collector", 1, 2, 2, 10, 3, 87);
        sendOnce("all three are the same", 1, 1, 1, 10, 3, 100);
        sendOnce("from is to, all of it", 1, 1, 9, 100, 0, 100);
        sendOnce("from is the collector, all of it", 1, 2, 1, 0, 100, 100);
        sendOnce("all three are the same, all of it", 1, 1, 1, 50, 50, 100);
        ProvenLedger x = Ledgers.of(1, 100);
        x.collector(2);
        x.send(1, 2, 10, 3, 0);
        Ledgers.accountIs(DUE, "to is the collector, and has both", x, 2, 0, 13);
    }

    private static void sendOnce(String what, int from, int to, int collector, long amount, long fee, long left) {
        ProvenLedger x = Ledgers.of(1, 100);
        x.collector(collector);
        Set<Integer> there = new HashSet<>(List.of(from));
        if (amount > 0) {
            there.add(to);
        }
        if (fee > 0) {
            there.add(collector);
        }
        DUE.is(what, x.send(from, to, amount, fee, 0), there.size());
        Ledgers.accountIs(DUE, what, x, from, 1, left);
        long all = 0;
        for (int account : there) {
            all += x.balance(account);
        }
        DUE.is(what + ", nothing is lost", all, 100);
    }

    private static void sendBadAccount() {
        DUE.sentence("4: BAD when from or to is not 0 .. 65535");
        ProvenLedger x = Ledgers.of(0, 10, 65535, 10);
        DUE.is("from 0 to 65535", x.send(0, 65535, 1, 0, 0), 2);
        DUE.is("from 65535 to 0", x.send(65535, 0, 1, 0, 0), 2);
        for (int account : Ledgers.NO_ACCOUNTS) {
            DUE.is("from " + account, x.send(account, 0, 0, 0, 0), BAD);
            DUE.is("to " + account, x.send(0, account, 0, 0, 1), BAD);
        }
    }

    private static void sendBadAmount() {
        DUE.sentence("4: BAD when .. amount or fee is not 0 .. 1000000000000");
        ProvenLedger x = Ledgers.of(1, MOST, 1, MOST, 1, MOST, 1, MOST, 1, 5);
        DUE.is("the least of both", x.send(1, 2, 0, 0, 0), 1);
        DUE.is("the most of both", x.send(1, 2, MOST, MOST, 1), 3);
        Ledgers.accountIs(DUE, "to", x, 2, 0, MOST);
        Ledgers.accountIs(DUE, "the collector", x, 0, 0, MOST);
        for (long amount : new long[] {-1, MOST + 1, Long.MIN_VALUE, Long.MAX_VALUE}) {
            DUE.is("the amount " + amount, x.send(1, 2, amount, 0, 2), BAD);
            DUE.is("the fee " + amount, x.send(1, 2, 0, amount, 2), BAD);
        }
        DUE.is("one of both too small, together right", x.send(1, 2, 2, -1, 2), BAD);
        DUE.is("one of both too small, together right", x.send(1, 2, -1, 2, 2), BAD);
    }

    private static void sendNonce() {
        DUE.sentence("4: WRONG_NONCE when nonce is not that of from");
        ProvenLedger x = Ledgers.of(1, 10, 2, 10);
        for (int nonce : new int[] {-1, 1, Integer.MIN_VALUE, Integer.MAX_VALUE}) {
            DUE.is("0, told as " + nonce, x.send(1, 2, 1, 0, nonce), ProvenLedger.WRONG_NONCE);
        }
        DUE.is("0", x.send(1, 2, 1, 0, 0), 2);
        for (int nonce : new int[] {0, 2, -1}) {
            DUE.is("1, told as " + nonce, x.send(1, 2, 1, 0, nonce), ProvenLedger.WRONG_NONCE);
        }
        DUE.is("1", x.send(1, 2, 1, 0, 1), 2);
        DUE.is("the nonce of to does not count", x.send(2, 1, 1, 0, 2), ProvenLedger.WRONG_NONCE);
        DUE.is("one that is not there, told as 1", x.send(3, 1, 0, 0, 1), ProvenLedger.WRONG_NONCE);
        DUE.is("one that is not there", x.send(3, 1, 0, 0, 0), 3);
        for (int nonce = 2; nonce < 257; nonce++) {
            x.send(1, 2, 0, 0, nonce);
        }
        DUE.is("257, told as 1", x.send(1, 2, 0, 0, 1), ProvenLedger.WRONG_NONCE);
        DUE.is("257", x.send(1, 2, 0, 0, 257), 3);
    }

    private static void sendPoor() {
        DUE.sentence("4: POOR when amount and fee together are more than the balance of from");
        poorOrNot("by the amount", 10, 0);
        poorOrNot("by the fee", 0, 10);
        poorOrNot("by both", 6, 4);
        ProvenLedger x = Ledgers.of(1, MOST, 1, MOST - 1);
        DUE.is("by the most of both", x.send(1, 2, MOST, MOST, 0), ProvenLedger.POOR);
        x.grant(1, 1);
        DUE.is("just not by the most of both", x.send(1, 2, MOST, MOST, 0), 3);
        DUE.is("with nothing left, nothing", x.send(1, 2, 0, 0, 1), 3);
        DUE.is("with nothing left, 1", x.send(1, 2, 1, 0, 2), ProvenLedger.POOR);
        DUE.is("with nothing left, 1 to itself", x.send(1, 1, 1, 0, 2), ProvenLedger.POOR);
        DUE.is("not there, 1", x.send(5, 2, 1, 0, 0), ProvenLedger.POOR);
        DUE.is("not there, a fee of 1", x.send(5, 2, 0, 1, 0), ProvenLedger.POOR);
    }

    private static void poorOrNot(String what, long amount, long fee) {
        DUE.is(what + ", as much as it has", Ledgers.of(1, 10).send(1, 1, amount, fee, 0), fee > 0 ? 2 : 1);
        DUE.is(what + ", 1 more than it has", Ledgers.of(1, 9).send(1, 1, amount, fee, 0), ProvenLedger.POOR);
    }

    // Every way in which from, to and the collector are the same, there or not, with 10, 11 and 12 there.
    private static void sendFull() {
        DUE.sentence("4: FULL when 13 accounts would be there");
        for (int there = 10; there <= 12; there++) {
            for (int from : new int[] {100, ABSENT}) {
                for (int to : new int[] {100, 101, ABSENT, OTHER_ABSENT}) {
                    for (int collector : new int[] {100, 101, 102, ABSENT, OTHER_ABSENT, 40000}) {
                        sendAmongMany(there, from, to, collector);
                    }
                }
            }
        }
    }

    private static void sendAmongMany(int there, int from, int to, int collector) {
        for (int amount = 0; amount <= 1; amount++) {
            for (int fee = 0; fee <= 1; fee++) {
                Set<Integer> after = new HashSet<>(Set.of(from));
                for (int i = 0; i < there; i++) {
                    after.add(100 + i);
                }
                if (amount > 0) {
                    after.add(to);
                }
                if (fee > 0) {
                    after.add(collector);
                }
                boolean poor = from == ABSENT && amount + fee > 0;
                int answer = poor ? ProvenLedger.POOR : after.size() > 12 ? ProvenLedger.FULL : after.size();
                ProvenLedger x = Ledgers.filled(there);
                x.collector(collector);
                String what = there + " there, from " + from + " to " + to + ", collector " + collector + ", "
                        + amount + " and " + fee;
                DUE.is(what, x.send(from, to, amount, fee, 0), answer);
                DUE.is(what + ", accounts()", x.accounts(), answer < 0 ? there : answer);
                DUE.is(what + ", leaves", x.nodes(0), answer < 0 ? there : answer);
            }
        }
    }

    // ---- promise 5

    private static void closeIsNotThere() {
        DUE.sentence("5: The account is not there any more: nonce and balance are 0.");
        ProvenLedger x = Ledgers.of(1, 10, 2, 10);
        x.send(1, 1, 0, 0, 0);
        x.send(3, 3, 0, 0, 0);
        int left = 3;
        for (int account : new int[] {1, 2, 3}) {
            DUE.isTrue("close(" + account + ")", x.close(account));
            Ledgers.accountIs(DUE, "closed", x, account, 0, 0);
            left--;
            DUE.is("accounts()", x.accounts(), left);
        }
        Ledgers.rootIs(DUE, "all closed", x, "80");
        DUE.is("its nonce begins anew", x.send(1, 1, 0, 0, 0), 1);
    }

    private static void closeAnswers() {
        DUE.sentence("5: Answers true; refused with false when it is not there (or account is not 0 .. 65535).");
        ProvenLedger ends = Ledgers.of(0, 1, 65535, 1);
        DUE.isFalse("close(1)", ends.close(1));
        DUE.isFalse("close(65534)", ends.close(65534));
        for (int account : Ledgers.NO_ACCOUNTS) {
            DUE.isFalse("close(" + account + ")", ends.close(account));
        }
        DUE.isTrue("close(0)", ends.close(0));
        DUE.isFalse("close(0) again", ends.close(0));
        DUE.isTrue("close(65535)", ends.close(65535));
        DUE.isFalse("close(65535) again", ends.close(65535));
        ProvenLedger full = Ledgers.filled(12);
        for (int i = 11; i >= 0; i--) {
            DUE.isTrue("close one of twelve", full.close(100 + (5 * i) % 12));
            DUE.is("accounts()", full.accounts(), i);
        }
    }

    // ---- promises 6 and 7

    private static void nonce() {
        DUE.sentence("6: The nonce of an account; 0 when account is not 0 .. 65535.");
        ProvenLedger x = Ledgers.of(0, 3, 65535, 4);
        x.send(0, 0, 0, 0, 0);
        x.send(65535, 65535, 0, 0, 0);
        x.send(65535, 65535, 0, 0, 1);
        DUE.is("nonce(0)", x.nonce(0), 1);
        DUE.is("nonce(65535)", x.nonce(65535), 2);
        DUE.is("nonce(1), not there", x.nonce(1), 0);
        for (int account : Ledgers.NO_ACCOUNTS) {
            DUE.is("nonce(" + account + ")", x.nonce(account), 0);
        }
    }

    private static void balance() {
        DUE.sentence("7: The balance of an account; 0 when account is not 0 .. 65535.");
        ProvenLedger x = Ledgers.of(0, 3, 65535, 4);
        DUE.is("balance(0)", x.balance(0), 3);
        DUE.is("balance(65535)", x.balance(65535), 4);
        DUE.is("balance(1), not there", x.balance(1), 0);
        for (int account : Ledgers.NO_ACCOUNTS) {
            DUE.is("balance(" + account + ")", x.balance(account), 0);
        }
    }

    // ---- promises 8 to 11

    private static void accounts() {
        DUE.sentence("8: How many accounts are there.");
        DUE.is("none", new ProvenLedger().accounts(), 0);
        DUE.is("one", Ledgers.filled(1).accounts(), 1);
        DUE.is("eleven", Ledgers.filled(11).accounts(), 11);
        DUE.is("all", Ledgers.filled(12).accounts(), 12);
        DUE.is("all and one more", Ledgers.filled(13).accounts(), 12);
    }

    private static void root() {
        DUE.sentence("9: Bytes 8 * k .. 8 * k + 7 of the root, the highest first, as one long; 0 when k is not 0 .. 3.");
        ProvenLedger x = Ledgers.of(0x1234, 7);
        Ledgers.rootIs(DUE, "a leaf", x, "c8 83201234 83c28007");
        for (int k : new int[] {-1, 4, 5, Integer.MIN_VALUE, Integer.MAX_VALUE}) {
            DUE.is("root(" + k + ")", x.root(k), 0);
        }
    }

    private static void nodes() {
        DUE.sentence("10: How many nodes the tree has: leaves (0), stems (1) or forks (2); BAD for another kind.");
        Ledgers.nodesAre(DUE, "none", new ProvenLedger(), 0, 0, 0);
        ProvenLedger x = Ledgers.of(0x1234, 7);
        Ledgers.nodesAre(DUE, "one", x, 1, 0, 0);
        ProvenLedger pairs = new ProvenLedger();
        for (int i = 0; i < 6; i++) {
            pairs.grant(0x1110 * i, 1);
            pairs.grant(0x1110 * i + 1, 1);
        }
        Ledgers.nodesAre(DUE, "six stems", pairs, 12, 6, 7);
        ProvenLedger chain = Ledgers.of(0, 1, 1, 1, 0x10, 1, 0x100, 1, 0x1000, 1);
        Ledgers.nodesAre(DUE, "a fork at each depth", chain, 5, 0, 4);
        chain.close(1);
        Ledgers.nodesAre(DUE, "one closed", chain, 4, 0, 3);
        chain.close(0x100);
        Ledgers.nodesAre(DUE, "two closed", chain, 3, 1, 2);
        chain.close(0x1000);
        Ledgers.nodesAre(DUE, "three closed", chain, 2, 1, 1);
        chain.close(0);
        chain.close(0x10);
        Ledgers.nodesAre(DUE, "all closed", chain, 0, 0, 0);
        for (int kind : new int[] {-1, 3, 4, Integer.MIN_VALUE, Integer.MAX_VALUE}) {
            DUE.is("nodes(" + kind + ")", x.nodes(kind), BAD);
            DUE.is("nodes(" + kind + ") of none", new ProvenLedger().nodes(kind), BAD);
        }
    }

    private static void size() {
        DUE.sentence("11: The number of bytes of the code of the node for all accounts; 1 when there are none.");
        DUE.is("none", new ProvenLedger().size(), 1);
        ProvenLedger x = Ledgers.of(0x1234, 7);
        DUE.is("one", x.size(), 9);
        DUE.is("all", Ledgers.fork(12, 0).size(), 103);
        DUE.is("all, with longer balances", Ledgers.fork(12, 60).size(), 163);
        x.close(0x1234);
        DUE.is("none again", x.size(), 1);
    }

    // ---- promise 12

    private static void proveInPlace() {
        DUE.sentence("12: Makes the proof for an account, in place of what there was.");
        ProvenLedger x = Ledgers.deep();
        x.prove(0x8001);
        x.alter(0, 0, 0);
        x.shorten();
        DUE.is("more parts", x.prove(0x8001), 4);
        List<String> whole = Snapshot.ofProof(x);
        ProvenLedger fresh = Ledgers.deep();
        fresh.prove(0x8001);
        DUE.same("nothing altered is left", whole, Snapshot.ofProof(fresh));
        DUE.is("fewer parts", fresh.prove(0xa000), 1);
        DUE.is("parts()", fresh.parts(), 1);
        DUE.is("length(1)", fresh.length(1), BAD);
        DUE.is("part(1, 0)", fresh.part(1, 0), BAD);
    }

    private static void proveAnswers() {
        DUE.sentence("12: Answers the number of its parts; BAD when account is not 0 .. 65535.");
        ProvenLedger x = Ledgers.of(0, 1, 65535, 1);
        for (int account : ACCOUNTS) {
            DUE.is("prove(" + account + ")", x.prove(account), 1);
            DUE.is("prove(" + account + ") with none there", new ProvenLedger().prove(account), 1);
        }
        for (int account : Ledgers.NO_ACCOUNTS) {
            DUE.is("prove(" + account + ")", x.prove(account), BAD);
            DUE.is("prove(" + account + ") with none there", new ProvenLedger().prove(account), BAD);
        }
    }

    // ---- promises 13 to 15

    private static void parts() {
        DUE.sentence("13: How many parts the proof has.");
        ProvenLedger x = Ledgers.deep();
        DUE.is("none made", x.parts(), 0);
        x.prove(0x8001);
        DUE.is("four", x.parts(), 4);
        x.shorten();
        DUE.is("three", x.parts(), 3);
        x.prove(0xa000);
        DUE.is("one", x.parts(), 1);
        x.shorten();
        DUE.is("none left", x.parts(), 0);
    }

    private static void length() {
        DUE.sentence("14: The number of bytes of part p; BAD when there is none.");
        ProvenLedger x = Ledgers.deep();
        DUE.is("length(0) of none", x.length(0), BAD);
        x.prove(0x8001);
        DUE.is("length(0)", x.length(0), x.size());
        DUE.is("length(3)", x.length(3), 35);
        for (int p : new int[] {-1, 4, 5, Integer.MIN_VALUE, Integer.MAX_VALUE}) {
            DUE.is("length(" + p + ")", x.length(p), BAD);
        }
        DUE.is("length(0) of no accounts", afterProve(new ProvenLedger()).length(0), 1);
    }

    private static void part() {
        DUE.sentence("15: Byte i of part p; BAD when there is none.");
        ProvenLedger x = Ledgers.deep();
        x.prove(0x8001);
        DUE.is("part(3, 0)", x.part(3, 0), 192 + 34);
        DUE.is("part(3, 34)", x.part(3, 34), 128);
        for (int p = 0; p < 4; p++) {
            int length = x.length(p);
            DUE.isTrue("part(" + p + ", 0)", x.part(p, 0) >= 192);
            DUE.is("part(" + p + ", last)", x.part(p, length - 1), 128);
            for (int i : new int[] {-1, length, length + 1, Integer.MIN_VALUE, Integer.MAX_VALUE}) {
                DUE.is("part(" + p + ", " + i + ")", x.part(p, i), BAD);
            }
        }
        for (int p : new int[] {-1, 4, 5, Integer.MIN_VALUE, Integer.MAX_VALUE}) {
            DUE.is("part(" + p + ", 0)", x.part(p, 0), BAD);
        }
        DUE.is("part(0, 0) without a proof", new ProvenLedger().part(0, 0), BAD);
        DUE.is("part(0, 0) of no accounts", afterProve(new ProvenLedger()).part(0, 0), 128);
        DUE.is("part(0, 1) of no accounts", afterProve(new ProvenLedger()).part(0, 1), BAD);
    }

    private static ProvenLedger afterProve(ProvenLedger x) {
        x.prove(0);
        return x;
    }

    // ---- promises 16 and 17

    private static void alterBecomes() {
        DUE.sentence("16: Byte i of part p becomes b. Answers whether it was another one");
        ProvenLedger x = Ledgers.deep();
        x.prove(0x8001);
        alters(x, 0, 0);
        alters(x, 0, x.length(0) - 1);
        alters(x, 3, 0);
        alters(x, 3, 34);
        DUE.is("all is as it was", x.check(0x8001), 1);
    }

    private static void alterRefused() {
        DUE.sentence("16: refused with false when there is no such byte or b is not 0 .. 255");
        ProvenLedger x = Ledgers.deep();
        x.prove(0x8001);
        DUE.isFalse("without a proof", new ProvenLedger().alter(0, 0, 5));
        for (int b : new int[] {-1, 256, Integer.MIN_VALUE, Integer.MAX_VALUE}) {
            DUE.isFalse("alter(3, 34, " + b + ")", x.alter(3, 34, b));
        }
        for (int i : new int[] {-1, 35, 36, Integer.MIN_VALUE, Integer.MAX_VALUE}) {
            DUE.isFalse("alter(3, " + i + ", 5)", x.alter(3, i, 5));
        }
        for (int p : new int[] {-1, 4, 5, Integer.MIN_VALUE, Integer.MAX_VALUE}) {
            DUE.isFalse("alter(" + p + ", 0, 5)", x.alter(p, 0, 5));
        }
        DUE.isFalse("one byte, no second one", afterProve(new ProvenLedger()).alter(0, 1, 5));
        DUE.is("all is as it was", x.check(0x8001), 1);
    }

    private static void shorten() {
        DUE.sentence("17: The last part of the proof goes. Answers how many are left; BAD when there are none.");
        ProvenLedger x = Ledgers.deep();
        DUE.is("none made", x.shorten(), BAD);
        x.prove(0x8001);
        for (int left = 3; left >= 0; left--) {
            DUE.is("shorten()", x.shorten(), left);
            DUE.is("parts()", x.parts(), left);
            DUE.is("the part that is gone", x.length(left), BAD);
            DUE.is("its bytes", x.part(left, 0), BAD);
            DUE.isFalse("to alter it", x.alter(left, 0, 1));
            DUE.isTrue("the part before it", left == 0 || x.length(left - 1) > 0);
        }
        DUE.is("none left", x.shorten(), BAD);
        DUE.is("none left, again", x.shorten(), BAD);
        DUE.is("a new one", x.prove(0x8001), 4);
    }

    private static void alters(ProvenLedger x, int p, int i) {
        int before = x.part(p, i);
        for (int b : new int[] {0, 255, before}) {
            DUE.isTrue("alter(" + p + ", " + i + ", " + b + ")", x.alter(p, i, b));
            DUE.is("part(" + p + ", " + i + ")", x.part(p, i), b);
            DUE.isFalse("alter(" + p + ", " + i + ", " + b + ") again", x.alter(p, i, b));
            DUE.is("check", x.check(0x8001), b == before ? 1 : BAD);
        }
    }

    // ---- promise 18

    private static void checkRootAsItIsNow() {
        DUE.sentence("18: Checks the proof for an account against the root as it is now.");
        ProvenLedger x = Ledgers.deep();
        x.prove(0x8001);
        DUE.is("as it was made", x.check(0x8001), 1);
        x.grant(0xa000, 1);
        DUE.is("another account has changed", x.check(0x8001), BAD);
        x.prove(0x8001);
        DUE.is("made again", x.check(0x8001), 1);
        x.collector(5);
        DUE.is("the collector is no part of the root", x.check(0x8001), 1);
        x.send(0x8001, 0x8001, 0, 0, 0);
        DUE.is("a nonce has changed", x.check(0x8001), BAD);
        ProvenLedger altered = Ledgers.of(0x1234, 7);
        altered.prove(0x1234);
        altered.grant(0x1234, 1);
        altered.alter(0, 8, 8);
        DUE.is("altered to what the root has become", altered.check(0x1234), 1);
        DUE.is("proven(1)", altered.proven(1), 8);
    }

    private static void checkFound() {
        DUE.sentence("18: Answers 1 when it is good and the account is found, 0 when it is good and it is not found");
        ProvenLedger x = Ledgers.deep();
        for (int account : Ledgers.DEEP) {
            x.prove(account);
            DUE.is("check(" + account + "), there", x.check(account), 1);
            x.prove(account ^ 0xf);
            DUE.is("check(" + (account ^ 0xf) + "), not there", x.check(account ^ 0xf), 0);
            x.prove(account ^ 0x300);
            DUE.is("check(" + (account ^ 0x300) + "), not there", x.check(account ^ 0x300), 0);
        }
        ProvenLedger none = afterProve(new ProvenLedger());
        for (int account : ACCOUNTS) {
            DUE.is("check(" + account + ") with none there", none.check(account), 0);
        }
    }

    private static void checkBad() {
        DUE.sentence("18: BAD when it is not good, or account is not 0 .. 65535");
        ProvenLedger x = Ledgers.deep();
        ProvenLedger none = afterProve(new ProvenLedger());
        x.prove(0x8001);
        DUE.is("for one with the same way", x.check(0x8000), 1);
        DUE.is("for none with the same way", x.check(0x800f), 0);
        DUE.is("for one that ends in an earlier part", x.check(0x8100), BAD);
        DUE.is("for none that ends in an earlier part", x.check(0x7000), BAD);
        DUE.is("for one with another way", x.check(0), BAD);
        for (int account : Ledgers.NO_ACCOUNTS) {
            DUE.is("check(" + account + ")", x.check(account), BAD);
            DUE.is("check(" + account + ") with none there", none.check(account), BAD);
        }
        x.shorten();
        DUE.is("a part less", x.check(0x8001), BAD);
        none.shorten();
        DUE.is("no parts", none.check(0), BAD);
        ProvenLedger ends = Ledgers.of(0, 1, 65535, 1);
        ends.prove(0);
        DUE.is("the first account", ends.check(0), 1);
        DUE.is("the last account", ends.check(65535), 1);
    }

    // ---- promise 19

    private static void provenFound() {
        DUE.sentence("19: The nonce (0) or the balance (1) with which the latest check() found its account");
        ProvenLedger x = Ledgers.deep();
        x.send(0x8001, 0x8001, 0, 0, 0);
        x.prove(0x8001);
        x.check(0x8001);
        provenIs("found", x, 1, 500);
        x.check(0x8000);
        provenIs("another one found", x, 0, 100);
        x.check(0x8001);
        x.grant(0x8001, 1);
        x.close(0x8001);
        x.prove(0);
        x.alter(0, 0, 0);
        x.shorten();
        provenIs("whatever comes but a check", x, 1, 500);
        ProvenLedger rich = new ProvenLedger();
        for (int i = 0; i < 300; i++) {
            rich.grant(0xffff, MOST);
        }
        rich.prove(0xffff);
        rich.check(0xffff);
        provenIs("a long balance", rich, 0, 300 * MOST);
    }

    private static void provenAnotherNumber() {
        DUE.sentence("19: 0 for another number");
        ProvenLedger x = Ledgers.of(0x1234, 7);
        x.send(0x1234, 0x1234, 0, 0, 0);
        x.prove(0x1234);
        x.check(0x1234);
        provenIs("0 and 1", x, 1, 7);
        for (int what : new int[] {-1, 2, 3, Integer.MIN_VALUE, Integer.MAX_VALUE}) {
            DUE.is("proven(" + what + ")", x.proven(what), 0);
        }
    }

    private static void provenNotFound() {
        DUE.sentence("19: 0 .. when the latest check() did not answer 1 (also when it answered BAD, for whatever account)");
        ProvenLedger x = Ledgers.deep();
        x.send(0x8001, 0x8001, 0, 0, 0);
        x.prove(0x8001);
        for (int account : new int[] {0x800f, 0x8100, 0, -1, 65536, Integer.MIN_VALUE, Integer.MAX_VALUE}) {
            x.check(0x8001);
            provenIs("found", x, 1, 500);
            x.check(account);
            provenIs("then check(" + account + ")", x, 0, 0);
        }
        x.check(0x8001);
        x.shorten();
        provenIs("found, then shortened", x, 1, 500);
        x.check(0x8001);
        provenIs("then checked", x, 0, 0);
    }

    private static void provenWithoutACheck() {
        DUE.sentence("19: 0 .. or there was none");
        provenIs("a new object", new ProvenLedger(), 0, 0);
        ProvenLedger unchecked = Ledgers.deep();
        unchecked.prove(0x8001);
        provenIs("proved but not checked", unchecked, 0, 0);
    }

    private static void provenIs(String what, ProvenLedger x, long nonce, long balance) {
        DUE.is(what + ", proven(0)", x.proven(0), nonce);
        DUE.is(what + ", proven(1)", x.proven(1), balance);
    }
}
