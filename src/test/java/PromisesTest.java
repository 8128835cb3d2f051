/** One method a promise: ordinary inputs, the edges that the document names, and wrong inputs. */
public final class PromisesTest {
    private static final Due DUE = new Due("PromisesTest");
    private static final long MOST = 1000000000000L;
    private static final long[] EMPTY_ROOT = {
        0x56e81f171bcc55a6L, 0xff8345e692c0f86eL, 0x5b48e01b996cadc0L, 0x01622fb5e363b421L,
    };

    private PromisesTest() {
    }

    public static void main(String[] args) {
        promise1NewObject();
        promise2Collector();
        promise3Grant();
        promise4Send();
        promise4SendRefused();
        promise4SendFull();
        promise5Close();
        promise6Nonce();
        promise7Balance();
        promise8Accounts();
        promise9Root();
        promise10Nodes();
        promise11Size();
        promise12Prove();
        promise12ProofStays();
        promise13Parts();
        promise14Length();
        promise15Part();
        promise16Alter();
        promise17Shorten();
        promise18Check();
        promise19Proven();
        constants();
        DUE.end();
    }

    private static void promise1NewObject() {
        ProvenLedger x = new ProvenLedger();
        DUE.is("new: accounts()", x.accounts(), 0);
        DUE.is("new: parts()", x.parts(), 0);
        DUE.is("new: check(0) without a proof", x.check(0), ProvenLedger.BAD);
        DUE.is("new: proven(1)", x.proven(1), 0);
        rootIs("new", x, EMPTY_ROOT);
        x.grant(7, 10);
        DUE.is("new: a fee to account 0", x.send(7, 7, 0, 3, 0), 2);
        DUE.is("new: the collector is account 0", x.balance(0), 3);
        ProvenLedger other = new ProvenLedger();
        DUE.is("new: two objects share nothing", other.accounts(), 0);
    }

    private static void promise2Collector() {
        ProvenLedger x = new ProvenLedger();
        x.grant(1, 100);
        DUE.isTrue("collector(65535)", x.collector(65535));
        for (int account : Ledgers.NO_ACCOUNTS) {
            DUE.isFalse("collector(" + account + ")", x.collector(account));
        }
        DUE.is("collector alone is not there", x.accounts(), 1);
        x.send(1, 1, 0, 9, 0);
        DUE.is("collector: the fee's account", x.balance(65535), 9);
        DUE.isTrue("collector(0)", x.collector(0));
        x.send(1, 1, 0, 4, 1);
        DUE.is("collector: from now on", x.balance(0), 4);
        DUE.is("collector: not what came before", x.balance(65535), 9);
        x.close(0);
        x.send(1, 1, 0, 5, 2);
        DUE.is("collector: closed, still the collector", x.balance(0), 5);
    }

    private static void promise3Grant() {
        ProvenLedger x = new ProvenLedger();
        DUE.is("grant(0, 1)", x.grant(0, 1), 1);
        DUE.is("grant(65535, most)", x.grant(65535, MOST), 2);
        DUE.is("grant grows", x.grant(65535, MOST), 2);
        DUE.is("grant: balance", x.balance(65535), 2 * MOST);
        DUE.is("grant: no nonce", x.nonce(65535), 0);
        for (int account : Ledgers.NO_ACCOUNTS) {
            DUE.is("grant(" + account + ", 1)", x.grant(account, 1), ProvenLedger.BAD);
        }
        for (long amount : new long[] {0, -1, MOST + 1, Long.MAX_VALUE, Long.MIN_VALUE}) {
            DUE.is("grant(0, " + amount + ")", x.grant(0, amount), ProvenLedger.BAD);
        }
        DUE.is("grant refused changes nothing", x.balance(0), 1);
        Ledgers.fill(x, 10);
        DUE.is("grant: the 13th", x.grant(40000, 1), ProvenLedger.FULL);
        DUE.is("grant: FULL changes nothing", x.balance(40000), 0);
        DUE.is("grant: BAD stands before FULL", x.grant(40000, 0), ProvenLedger.BAD);
        DUE.is("grant: one of twelve", x.grant(0, 1), 12);
    }

    private static void promise4Send() {
        ProvenLedger x = new ProvenLedger();
        x.collector(9);
        x.grant(1, 1000);
        DUE.is("send", x.send(1, 2, 300, 5, 0), 3);
        Ledgers.accountIs(DUE, "send: from", x, 1, 1, 695);
        Ledgers.accountIs(DUE, "send: to", x, 2, 0, 300);
        Ledgers.accountIs(DUE, "send: collector", x, 9, 0, 5);
        DUE.is("send to itself", x.send(1, 1, 690, 5, 1), 3);
        Ledgers.accountIs(DUE, "send to itself", x, 1, 2, 690);
        DUE.is("send to the collector", x.send(1, 9, 80, 10, 2), 3);
        Ledgers.accountIs(DUE, "send to the collector: from", x, 1, 3, 600);
        Ledgers.accountIs(DUE, "send to the collector: to", x, 9, 0, 100);
        DUE.is("send from the collector", x.send(9, 2, 60, 40, 0), 3);
        Ledgers.accountIs(DUE, "send from the collector", x, 9, 1, 40);
        DUE.is("send, all three the same", x.send(9, 9, 30, 10, 1), 3);
        Ledgers.accountIs(DUE, "send, all three the same", x, 9, 2, 40);
        DUE.is("send all there is", x.send(2, 1, 300, 60, 0), 3);
        Ledgers.accountIs(DUE, "send all there is: from is there by its nonce", x, 2, 1, 0);
        DUE.is("send nothing from an account that is not there", x.send(77, 78, 0, 0, 0), 4);
        Ledgers.accountIs(DUE, "send nothing: from", x, 77, 1, 0);
        Ledgers.accountIs(DUE, "send nothing: to", x, 78, 0, 0);
        x.grant(65535, MOST);
        x.grant(65535, MOST);
        DUE.is("send the most of both", x.send(65535, 0, MOST, MOST, 0), 6);
        Ledgers.accountIs(DUE, "send the most of both: to", x, 0, 0, MOST);
    }

    private static void promise4SendRefused() {
        ProvenLedger x = new ProvenLedger();
        x.grant(1, 10);
        for (int account : Ledgers.NO_ACCOUNTS) {
            DUE.is("send from " + account, x.send(account, 1, 0, 0, 0), ProvenLedger.BAD);
            DUE.is("send to " + account, x.send(1, account, 1, 0, 0), ProvenLedger.BAD);
        }
        for (long amount : new long[] {-1, MOST + 1, Long.MIN_VALUE, Long.MAX_VALUE}) {
            DUE.is("send amount " + amount, x.send(1, 2, amount, 0, 5), ProvenLedger.BAD);
            DUE.is("send fee " + amount, x.send(1, 2, 0, amount, 5), ProvenLedger.BAD);
        }
        DUE.is("send: a nonce too high", x.send(1, 2, 1, 0, 1), ProvenLedger.WRONG_NONCE);
        DUE.is("send: a nonce below 0", x.send(1, 2, 1, 0, -1), ProvenLedger.WRONG_NONCE);
        DUE.is("send: WRONG_NONCE stands before POOR", x.send(1, 2, 11, 0, 1), ProvenLedger.WRONG_NONCE);
        DUE.is("send: poor by the amount", x.send(1, 2, 11, 0, 0), ProvenLedger.POOR);
        DUE.is("send: poor by both", x.send(1, 2, 6, 5, 0), ProvenLedger.POOR);
        DUE.is("send: poor to itself", x.send(1, 1, 11, 0, 0), ProvenLedger.POOR);
        DUE.is("send: poor from the collector", x.send(0, 0, 0, 1, 0), ProvenLedger.POOR);
        Ledgers.accountIs(DUE, "send refused changes nothing", x, 1, 0, 10);
        DUE.is("send refused makes no account", x.accounts(), 1);
    }

    private static void promise4SendFull() {
        ProvenLedger x = Ledgers.filled(11);
        x.collector(50000);
        DUE.is("send: to and collector would be 13", x.send(100, 60000, 1, 1, 0), ProvenLedger.FULL);
        Ledgers.accountIs(DUE, "send: FULL changes nothing", x, 100, 0, 1000);
        DUE.is("send: to is the collector, 12", x.send(100, 50000, 1, 1, 0), 12);
        DUE.is("send: to would be the 13th", x.send(100, 60000, 1, 0, 1), ProvenLedger.FULL);
        DUE.is("send: from would be the 13th", x.send(60000, 100, 0, 0, 0), ProvenLedger.FULL);
        DUE.is("send: POOR stands before FULL", x.send(60000, 61000, 1, 0, 0), ProvenLedger.POOR);
        DUE.is("send: nothing to one that is not there", x.send(100, 60000, 0, 1, 1), 12);
        x.collector(60000);
        DUE.is("send: the collector would be the 13th", x.send(100, 101, 1, 1, 2), ProvenLedger.FULL);
        DUE.is("send: no fee to a collector that is not there", x.send(100, 101, 1, 0, 2), 12);
    }

    private static void promise5Close() {
        ProvenLedger x = new ProvenLedger();
        x.grant(5, 10);
        x.send(5, 5, 0, 0, 0);
        x.grant(65535, 1);
        DUE.isFalse("close one that is not there", x.close(6));
        for (int account : Ledgers.NO_ACCOUNTS) {
            DUE.isFalse("close(" + account + ")", x.close(account));
        }
        DUE.is("close refused changes nothing", x.accounts(), 2);
        DUE.isTrue("close(5)", x.close(5));
        Ledgers.accountIs(DUE, "closed", x, 5, 0, 0);
        DUE.isFalse("close(5) again", x.close(5));
        DUE.isTrue("close(65535)", x.close(65535));
        DUE.is("all closed", x.accounts(), 0);
        rootIs("all closed", x, EMPTY_ROOT);
        x.send(3, 3, 0, 0, 0);
        DUE.isTrue("close one that is there by its nonce", x.close(3));
        DUE.is("its nonce begins anew", x.send(3, 3, 0, 0, 0), 1);
    }

    private static void promise6Nonce() {
        ProvenLedger x = new ProvenLedger();
        x.grant(5, 10);
        DUE.is("nonce at first", x.nonce(5), 0);
        for (int i = 0; i < 300; i++) {
            x.send(5, 6, 0, 0, i);
        }
        DUE.is("nonce after 300", x.nonce(5), 300);
        DUE.is("nonce of one that is not there", x.nonce(6), 0);
        for (int account : Ledgers.NO_ACCOUNTS) {
            DUE.is("nonce(" + account + ")", x.nonce(account), 0);
        }
    }

    private static void promise7Balance() {
        ProvenLedger x = new ProvenLedger();
        for (int i = 0; i < 400; i++) {
            x.grant(5, MOST);
        }
        DUE.is("balance after 400 grants", x.balance(5), 400 * MOST);
        DUE.is("balance of one that is not there", x.balance(6), 0);
        for (int account : Ledgers.NO_ACCOUNTS) {
            DUE.is("balance(" + account + ")", x.balance(account), 0);
        }
    }

    private static void promise8Accounts() {
        ProvenLedger x = Ledgers.filled(12);
        DUE.is("accounts()", x.accounts(), 12);
        x.close(104);
        DUE.is("accounts() after close", x.accounts(), 11);
        x.send(7, 7, 0, 0, 0);
        DUE.is("accounts() counts one by its nonce", x.accounts(), 12);
    }

    private static void promise9Root() {
        ProvenLedger x = new ProvenLedger();
        x.grant(0x1234, 7);
        // The code of this ledger's only node, written out.
        byte[] code = {(byte) 200, (byte) 131, 32, 0x12, 0x34, (byte) 131, (byte) 194, (byte) 128, 7};
        byte[] hash = Keccak.hash(code);
        for (int k = 0; k < 4; k++) {
            DUE.is("root(" + k + ")", x.root(k), java.nio.ByteBuffer.wrap(hash).getLong(8 * k));
        }
        for (int k : new int[] {-1, 4, Integer.MIN_VALUE, Integer.MAX_VALUE}) {
            DUE.is("root(" + k + ")", x.root(k), 0);
        }
        long before = x.root(0);
        x.grant(0x9999, 1);
        DUE.isTrue("root changes with the accounts", x.root(0) != before);
        x.close(0x9999);
        DUE.is("root is by the accounts alone", x.root(0), before);
        x.collector(5);
        DUE.is("root does not know the collector", x.root(0), before);
        x.send(0x1234, 0x1234, 0, 0, 0);
        DUE.isTrue("root knows the nonce", x.root(0) != before);
    }

    private static void promise10Nodes() {
        ProvenLedger x = new ProvenLedger();
        Ledgers.nodesAre(DUE, "none", x, 0, 0, 0);
        x.grant(0x1234, 1);
        Ledgers.nodesAre(DUE, "one", x, 1, 0, 0);
        x.grant(0x1235, 1);
        Ledgers.nodesAre(DUE, "a stem of three digits", x, 2, 1, 1);
        x.grant(0x1334, 1);
        Ledgers.nodesAre(DUE, "two stems", x, 3, 2, 2);
        x.grant(0x2000, 1);
        Ledgers.nodesAre(DUE, "a stem less", x, 4, 1, 3);
        x.close(0x1235);
        Ledgers.nodesAre(DUE, "closed", x, 3, 0, 2);
        for (int kind : new int[] {-1, 3, Integer.MIN_VALUE, Integer.MAX_VALUE}) {
            DUE.is("nodes(" + kind + ")", x.nodes(kind), ProvenLedger.BAD);
        }
    }

    private static void promise11Size() {
        ProvenLedger x = new ProvenLedger();
        DUE.is("size() of none", x.size(), 1);
        x.grant(0x1234, 7);
        DUE.is("size() of a leaf", x.size(), 9);
        x.grant(0x1234, 121);
        DUE.is("size() with a balance of 128", x.size(), 10);
        x.grant(0x1235, 1);
        DUE.is("size() of a stem with a fork inside", x.size(), 1 + 3 + (1 + 7 + 6 + 15));
        x.close(0x1234);
        x.close(0x1235);
        for (int i = 0; i < 12; i++) {
            x.grant(0x1000 * i, 1);
        }
        DUE.is("size() of a wide fork", x.size(), 2 + 12 * 8 + 5);
        for (int i = 0; i < 12; i++) {
            x.grant(0x1000 * i, MOST);
            for (int nonce = 0; nonce < 20; nonce++) {
                x.send(0x1000 * i, 0, 0, 0, nonce);
            }
        }
        DUE.is("size() with long balances", x.size(), 2 + 12 * 13 + 5);
        ProvenLedger most = new ProvenLedger();
        for (int i = 0; i < 12; i++) {
            for (int times = 0; times < 20; times++) {
                most.grant(0x1000 * (i / 2) + 0x100 * (i % 2), MOST);
            }
        }
        DUE.is("size() of a fork of hashes", most.size(), 2 + 6 * 33 + 11);
        most.grant(0x6000, MOST);
        DUE.is("size() is not touched by FULL", most.size(), 2 + 6 * 33 + 11);
    }

    private static void promise12Prove() {
        ProvenLedger x = new ProvenLedger();
        DUE.is("prove of none", x.prove(0), 1);
        proofIs("of none", x, new int[][] {{128}});
        for (int account : Ledgers.NO_ACCOUNTS) {
            DUE.is("prove(" + account + ")", x.prove(account), ProvenLedger.BAD);
        }
        proofIs("kept when refused", x, new int[][] {{128}});
        x.grant(0x1234, 100);
        int[] leaf = {200, 131, 32, 0x12, 0x34, 131, 194, 128, 100};
        x.prove(0x1234);
        proofIs("a leaf", x, new int[][] {leaf});
        x.prove(65535);
        proofIs("a leaf, another account", x, new int[][] {leaf});
        x.grant(0x1235, 200);
        int[] stem = {
            224, 130, 17, 0x23, 220, 128, 128, 128, 128,
            197, 32, 131, 194, 128, 100, 198, 32, 132, 195, 128, 129, 200,
            128, 128, 128, 128, 128, 128, 128, 128, 128, 128, 128,
        };
        x.prove(0x1235);
        proofIs("a stem with a fork and two leaves inside", x, new int[][] {stem});
        x.grant(0x1236, 200);
        DUE.is("prove, the fork by its hash", x.prove(0x1234), 2);
        DUE.is("prove, the stem has not the digits", x.prove(0x1334), 1);
        DUE.is("prove, nothing for the last digit", x.prove(0x1239), 2);
    }

    private static void promise12ProofStays() {
        ProvenLedger x = new ProvenLedger();
        x.grant(0x1234, 100);
        x.prove(0x1234);
        x.grant(0x1234, 27);
        x.grant(0x5678, 1);
        x.close(0x1234);
        proofIs("stays", x, new int[][] {{200, 131, 32, 0x12, 0x34, 131, 194, 128, 100}});
        DUE.is("stays, but is not good", x.check(0x1234), ProvenLedger.BAD);
        x.close(0x5678);
        x.grant(0x1234, 100);
        DUE.is("good again with the same accounts", x.check(0x1234), 1);
    }

    private static void promise13Parts() {
        ProvenLedger x = Ledgers.deep();
        DUE.is("parts() before prove", x.parts(), 0);
        DUE.is("prove, four parts", x.prove(0x8001), 4);
        DUE.is("parts()", x.parts(), 4);
        x.prove(0x3000);
        DUE.is("parts() in place of what there was", x.parts(), 1);
    }

    private static void promise14Length() {
        ProvenLedger x = Ledgers.deep();
        DUE.is("length(0) without a proof", x.length(0), ProvenLedger.BAD);
        x.prove(0x8001);
        DUE.is("length(0)", x.length(0), x.size());
        DUE.is("length(3)", x.length(3), 35);
        for (int p : new int[] {-1, 4, 5, Integer.MIN_VALUE, Integer.MAX_VALUE}) {
            DUE.is("length(" + p + ")", x.length(p), ProvenLedger.BAD);
        }
        x.prove(0x3000);
        DUE.is("length(1) of a part that is gone", x.length(1), ProvenLedger.BAD);
    }

    private static void promise15Part() {
        ProvenLedger x = Ledgers.deep();
        DUE.is("part(0, 0) without a proof", x.part(0, 0), ProvenLedger.BAD);
        x.prove(0x8001);
        DUE.is("part(3, 0)", x.part(3, 0), 192 + 34);
        DUE.is("part(3, 1)", x.part(3, 1), 192 + 5);
        DUE.is("part(3, 34), the last byte", x.part(3, 34), 128);
        for (int i : new int[] {-1, 35, 36, 500, Integer.MIN_VALUE, Integer.MAX_VALUE}) {
            DUE.is("part(3, " + i + ")", x.part(3, i), ProvenLedger.BAD);
        }
        for (int p : new int[] {-1, 4, 5, Integer.MIN_VALUE, Integer.MAX_VALUE}) {
            DUE.is("part(" + p + ", 0)", x.part(p, 0), ProvenLedger.BAD);
        }
    }

    private static void promise16Alter() {
        ProvenLedger x = Ledgers.deep();
        DUE.isFalse("alter without a proof", x.alter(0, 0, 5));
        x.prove(0x8001);
        DUE.is("check before", x.check(0x8001), 1);
        int before = x.part(1, 3);
        DUE.isTrue("alter to 255", x.alter(1, 3, 255));
        DUE.is("altered", x.part(1, 3), 255);
        DUE.isFalse("alter to the same", x.alter(1, 3, 255));
        DUE.is("altered, not good", x.check(0x8001), ProvenLedger.BAD);
        DUE.isTrue("alter to 0", x.alter(1, 3, 0));
        DUE.isTrue("alter back", x.alter(1, 3, before));
        DUE.is("altered back, good", x.check(0x8001), 1);
        for (int b : new int[] {-1, 256, Integer.MIN_VALUE, Integer.MAX_VALUE}) {
            DUE.isFalse("alter to " + b, x.alter(1, 3, b));
        }
        DUE.isFalse("alter a byte behind the last", x.alter(3, 35, 1));
        DUE.isFalse("alter byte -1", x.alter(3, -1, 1));
        DUE.isFalse("alter part -1", x.alter(-1, 0, 1));
        DUE.isFalse("alter part 4", x.alter(4, 0, 1));
        DUE.is("alter refused changes nothing", x.check(0x8001), 1);
        DUE.isTrue("alter the last byte", x.alter(3, 34, 129));
        DUE.is("altered in the last byte, not good", x.check(0x8001), ProvenLedger.BAD);
        long root = x.root(0);
        x.grant(0x77, 1);
        x.close(0x77);
        DUE.is("alter does not touch the ledger", x.root(0), root);
    }

    private static void promise17Shorten() {
        ProvenLedger x = Ledgers.deep();
        DUE.is("shorten without a proof", x.shorten(), ProvenLedger.BAD);
        x.prove(0x8001);
        for (int left = 3; left >= 0; left--) {
            DUE.is("shorten()", x.shorten(), left);
            DUE.is("parts() after shorten", x.parts(), left);
            DUE.is("length of the part that is gone", x.length(left), ProvenLedger.BAD);
            DUE.is("byte of the part that is gone", x.part(left, 0), ProvenLedger.BAD);
            DUE.isFalse("alter the part that is gone", x.alter(left, 0, 1));
            DUE.is("check after shorten", x.check(0x8001), ProvenLedger.BAD);
        }
        DUE.is("shorten nothing", x.shorten(), ProvenLedger.BAD);
        DUE.is("parts() after that", x.parts(), 0);
    }

    private static void promise18Check() {
        ProvenLedger x = Ledgers.deep();
        for (int account : new int[] {0, 1, 0x10, 0x8000, 0x8001, 0x8002, 0x8010, 0x8100, 0xa000}) {
            x.prove(account);
            DUE.is("check(" + account + "), found", x.check(account), 1);
        }
        for (int account : new int[] {2, 0x20, 0x11, 0x100, 0x7000, 0x8003, 0x8011, 0x8200, 0xa001, 65535}) {
            x.prove(account);
            DUE.is("check(" + account + "), not found", x.check(account), 0);
        }
        x.prove(0x8001);
        DUE.is("check for one with the same way", x.check(0x8000), 1);
        DUE.is("check for none with the same way", x.check(0x800f), 0);
        DUE.is("check for one that ends in an earlier part", x.check(0x8100), ProvenLedger.BAD);
        DUE.is("check for one that takes another way", x.check(0), ProvenLedger.BAD);
        for (int account : Ledgers.NO_ACCOUNTS) {
            DUE.is("check(" + account + ")", x.check(account), ProvenLedger.BAD);
        }
        x.grant(0xa000, 1);
        DUE.is("check against the root as it is now", x.check(0x8001), ProvenLedger.BAD);
        ProvenLedger none = new ProvenLedger();
        none.prove(5);
        DUE.is("check of none", none.check(6), 0);
    }

    private static void promise19Proven() {
        ProvenLedger x = Ledgers.deep();
        x.send(0x8001, 0x8001, 0, 0, 0);
        provenIs("without a check", x, 0, 0);
        x.prove(0x8001);
        provenIs("prove is no check", x, 0, 0);
        x.check(0x8001);
        provenIs("found", x, 1, 500);
        for (int what : new int[] {-1, 2, Integer.MIN_VALUE, Integer.MAX_VALUE}) {
            DUE.is("proven(" + what + ")", x.proven(what), 0);
        }
        x.grant(0x8001, 1);
        x.prove(0);
        x.shorten();
        provenIs("found, whatever comes but a check", x, 1, 500);
        x.prove(0x8001);
        x.check(0x800f);
        provenIs("not found", x, 0, 0);
        x.check(0x8001);
        provenIs("found again", x, 1, 501);
        x.check(65536);
        provenIs("no account", x, 0, 0);
        x.check(0x8001);
        x.check(0);
        provenIs("not good", x, 0, 0);
        for (int i = 0; i < 20; i++) {
            x.grant(0x8001, MOST);
        }
        x.prove(0x8001);
        x.check(0x8001);
        provenIs("a long balance", x, 1, 20 * MOST + 501);
    }

    private static void constants() {
        DUE.is("BAD", ProvenLedger.BAD, -1);
        DUE.is("WRONG_NONCE", ProvenLedger.WRONG_NONCE, -2);
        DUE.is("POOR", ProvenLedger.POOR, -3);
        DUE.is("FULL", ProvenLedger.FULL, -4);
    }

    private static void rootIs(String what, ProvenLedger x, long[] root) {
        for (int k = 0; k < 4; k++) {
            DUE.is(what + ", root(" + k + ")", x.root(k), root[k]);
        }
    }

    private static void proofIs(String what, ProvenLedger x, int[][] parts) {
        DUE.is(what + ", parts()", x.parts(), parts.length);
        for (int p = 0; p < parts.length; p++) {
            DUE.is(what + ", length(" + p + ")", x.length(p), parts[p].length);
            for (int i = 0; i < parts[p].length; i++) {
                DUE.is(what + ", part(" + p + ", " + i + ")", x.part(p, i), parts[p][i]);
            }
        }
    }

    private static void provenIs(String what, ProvenLedger x, long nonce, long balance) {
        DUE.is(what + ", proven(0)", x.proven(0), nonce);
        DUE.is(what + ", proven(1)", x.proven(1), balance);
    }
}
