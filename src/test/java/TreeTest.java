import java.util.List;

/** The sentences of "Terms" on accounts, the tree, the root and the proof, each with a test of its own. */
public final class TreeTest {
    private static final Due DUE = new Due("TreeTest");
    // Leaves without digits, with the balances 1, 128 and 256: 6, 7 and 8 bytes.
    private static final String LEAF_OF_1 = "c5 20 83c28001";
    private static final String LEAF_OF_128 = "c6 20 84c3808180";
    private static final String LEAF_OF_256 = "c7 20 85c480820100";

    private TreeTest() {
    }

    public static void main(String[] args) {
        accountsAtFirst();
        isThere();
        mostAreThere();
        path();
        leafDigits();
        stemDigits();
        stemOfAll();
        stemAtLeastOne();
        forkEnds();
        forkNext();
        forkWhenNoneHas();
        forkOfAll();
        mostNodes();
        byHash();
        byItself();
        rootOfSome();
        rootOfNone();
        proofOfNone();
        proofParts();
        leafEndsTheWay();
        stemEndsTheWay();
        forkEndsTheWay();
        proofStays();
        proofAtFirst();
        DUE.end();
    }

    private static void accountsAtFirst() {
        DUE.sentence("ACCOUNTS have numbers 0 .. 65535, a NONCE and a BALANCE, both numbers, at first 0.");
        ProvenLedger x = new ProvenLedger();
        for (int account : new int[] {0, 1, 0x1234, 65534, 65535}) {
            Ledgers.accountIs(DUE, "at first", x, account, 0, 0);
        }
        DUE.is("the first number", x.grant(0, 5), 1);
        DUE.is("the last number", x.grant(65535, 6), 2);
        Ledgers.accountIs(DUE, "granted", x, 0, 0, 5);
        Ledgers.accountIs(DUE, "granted", x, 65535, 0, 6);
    }

    private static void isThere() {
        DUE.sentence("An account IS THERE when its nonce or its balance is not 0");
        ProvenLedger x = new ProvenLedger();
        x.grant(1, 10);
        DUE.is("by its balance", x.accounts(), 1);
        x.send(1, 1, 0, 0, 0);
        DUE.is("by both", x.accounts(), 1);
        x.send(1, 2, 10, 0, 1);
        DUE.is("one by its nonce, one by its balance", x.accounts(), 2);
        x.send(3, 4, 0, 0, 0);
        DUE.is("a third by its nonce, none by an amount of 0", x.accounts(), 3);
        DUE.isFalse("close one with neither", x.close(4));
        DUE.isTrue("close one with a nonce alone", x.close(1));
        DUE.isTrue("close one with a balance alone", x.close(2));
        DUE.is("what is left", x.accounts(), 1);
        Ledgers.rootIs(DUE, "what is left", x, "c8 83200003 83c20180");
    }

    private static void mostAreThere() {
        DUE.sentence("at most 12 are there");
        ProvenLedger x = new ProvenLedger();
        for (int i = 1; i <= 12; i++) {
            DUE.is("account " + i, x.grant(i, 1), i);
        }
        DUE.is("the 13th", x.grant(13, 1), ProvenLedger.FULL);
        DUE.is("accounts()", x.accounts(), 12);
        DUE.is("leaves", x.nodes(0), 12);
    }

    private static void path() {
        DUE.sentence("Its PATH is the four digits 0 .. 15 of its number to the base 16, the highest first.");
        Ledgers.rootIs(DUE, "account 0", Ledgers.of(0, 1), "c8 83200000 83c28001");
        Ledgers.rootIs(DUE, "account 15", Ledgers.of(15, 1), "c8 8320000f 83c28001");
        Ledgers.rootIs(DUE, "account 16", Ledgers.of(16, 1), "c8 83200010 83c28001");
        Ledgers.rootIs(DUE, "account 61440", Ledgers.of(61440, 1), "c8 8320f000 83c28001");
        Ledgers.rootIs(DUE, "account 65535", Ledgers.of(65535, 1), "c8 8320ffff 83c28001");
    }

    private static void leafDigits() {
        DUE.sentence("LEAF: its digits from the d-th on (counted from 0; none when d is 4), packed, marked");
        proofIs("d is 0", Ledgers.of(0x1234, 7), 0x1234, "c8 83201234 83c28007");
        proofIs("d is 1", Ledgers.of(0x1234, 7, 0x2000, 1), 0x1234,
                "df" + Ledgers.items(1, "c7 823234 83c28007", "c7 823000 83c28001"));
        String fork = "df" + Ledgers.items(2, "c7 822034 83c28007", "c7 822034 83c28001");
        proofIs("d is 2", Ledgers.of(0x1234, 7, 0x1334, 1), 0x1234, "e2 11" + Hex.hashOf(fork), fork);
        proofIs("d is 3", Ledgers.of(0x1234, 7, 0x1244, 1), 0x1234,
                "df 820012 db" + Ledgers.items(3, "c5 34 83c28007", "c5 34 83c28001"));
        proofIs("d is 4", Ledgers.of(0x1234, 7, 0x1235, 1), 0x1234,
                "df 821123 db" + Ledgers.items(4, "c5 20 83c28007", LEAF_OF_1));
    }

    private static void stemDigits() {
        DUE.sentence("Several that agree in the next digits .. STEM: these digits, packed, not marked");
        String fork = "df" + Ledgers.items(14, "c7 8220ff 83c28001", "c7 822000 83c28001");
        proofIs("one digit", Ledgers.of(0xfeff, 1, 0xff00, 1), 0xfeff, "e2 1f" + Hex.hashOf(fork), fork);
        proofIs("two digits", Ledgers.of(0xffe0, 1, 0xfff0, 1), 0xfff0,
                "df 8200ff db" + Ledgers.items(14, "c5 30 83c28001", "c5 30 83c28001"));
        proofIs("three digits", Ledgers.of(0, 1, 1, 1), 0, "df 821000 db" + Ledgers.items(0, LEAF_OF_1, LEAF_OF_1));
        String below = "df 820034 db" + Ledgers.items(5, LEAF_OF_1, LEAF_OF_1);
        proofIs("two digits behind a fork", Ledgers.of(0x2345, 1, 0x2346, 1, 0, 1), 0x2345,
                "f838 c7 823000 83c28001 80" + Hex.hashOf(below) + "80".repeat(14), below);
    }

    private static void stemOfAll() {
        DUE.sentence("Several that agree in the next digits, as many of them as they all agree in");
        String fork = "f5" + Ledgers.items(2, "dd 13 db" + Ledgers.items(4, LEAF_OF_1, LEAF_OF_1), "c7 822034 83c28001");
        ProvenLedger x = Ledgers.of(0x1234, 1, 0x1235, 1, 0x1334, 1);
        proofIs("two agree in three digits, all in one", x, 0x1234, "e2 11" + Hex.hashOf(fork), fork);
        Ledgers.nodesAre(DUE, "two agree in three digits, all in one", x, 3, 2, 2);
        ProvenLedger many = new ProvenLedger();
        for (int i = 0; i < 12; i++) {
            many.grant(0x7770 + i, 1);
        }
        Ledgers.nodesAre(DUE, "twelve agree in three digits", many, 12, 1, 1);
        String wide = "f84d" + LEAF_OF_1.repeat(12) + "80".repeat(5);
        proofIs("twelve agree in three digits", many, 0x7770, "e4 821777" + Hex.hashOf(wide), wide);
    }

    private static void stemAtLeastOne() {
        DUE.sentence("as many of them as they all agree in, at least one: STEM");
        String fork = "df" + Ledgers.items(2, "c7 822034 83c28001", "c7 822034 83c28001");
        ProvenLedger x = Ledgers.of(0x1234, 1, 0x1334, 1, 0x2000, 1);
        proofIs("two forks without a stem between", x, 0x1234,
                "f838" + Ledgers.items(1, Hex.hashOf(fork), "c7 823000 83c28001"), fork);
        Ledgers.nodesAre(DUE, "two forks without a stem between", x, 3, 0, 2);
        Ledgers.nodesAre(DUE, "one account", Ledgers.of(0x1234, 1), 1, 0, 0);
        Ledgers.nodesAre(DUE, "no digit agrees", Ledgers.of(0x1234, 1, 0x2234, 1), 2, 0, 1);
        Ledgers.nodesAre(DUE, "one digit agrees", Ledgers.of(0x1234, 1, 0x1334, 1), 2, 1, 1);
    }

    private static void forkEnds() {
        DUE.sentence("FORK: 17 items: for each digit 0 .. 15 the node .. or no bytes when none has");
        String leaf = "c7 823000 83c28001";
        proofIs("the digits 0 and 15", Ledgers.of(0, 1, 0xf000, 1), 0, "df" + leaf + "80".repeat(14) + leaf + "80");
        proofIs("the digits 0 and 1", Ledgers.of(0, 1, 0x1000, 1), 0, "df" + leaf + leaf + "80".repeat(15));
        proofIs("the digits 14 and 15", Ledgers.of(0xe000, 1, 0xf000, 1), 0, "df" + "80".repeat(14) + leaf + leaf + "80");
    }

    private static void forkNext() {
        DUE.sentence("FORK: .. for each digit .. the node, at depth d + 1, for those that have it next");
        String fork = "df" + Ledgers.items(1, "c7 822034 83c28001", "c7 822034 83c28001");
        String leaf = "c7 823234 83c28001";
        proofIs("an account behind it has the same digit next", Ledgers.of(0x1134, 1, 0x1234, 1, 0x2234, 1), 0x1234,
                "f838" + Ledgers.items(1, Hex.hashOf(fork), leaf), fork);
        proofIs("an account before it has the same digit next", Ledgers.of(0x1134, 1, 0x1234, 1, 0x0134, 1), 0x1134,
                "f838" + Ledgers.items(0, "c7 823134 83c28001", Hex.hashOf(fork)), fork);
    }

    private static void forkWhenNoneHas() {
        DUE.sentence("FORK: .. or no bytes when none has (any more)");
        String leaf = "c7 823000 83c28001";
        ProvenLedger x = Ledgers.of(0, 1, 0x1000, 1, 0x2000, 1, 0xf000, 1);
        proofIs("four", x, 0, "ed" + leaf + leaf + leaf + "80".repeat(12) + leaf + "80");
        x.close(0x1000);
        proofIs("one of them closed", x, 0, "e6" + leaf + "80" + leaf + "80".repeat(12) + leaf + "80");
        x.close(0);
        proofIs("two of them closed", x, 0, "df 8080" + leaf + "80".repeat(12) + leaf + "80");
        x.close(0xf000);
        proofIs("one of them left", x, 0, "c8 83202000 83c28001");
    }

    private static void forkOfAll() {
        DUE.sentence("FORK: 17 items: .. and a last item of no bytes");
        ProvenLedger x = new ProvenLedger();
        for (int digit = 4; digit <= 15; digit++) {
            x.grant(0x1000 * digit, 1);
        }
        proofIs("twelve digits", x, 0, "f865" + "80".repeat(4) + "c7 823000 83c28001".repeat(12) + "80");
    }

    // No tree has more nodes: with twelve accounts and four digits, a stem stands above each fork of two leaves.
    private static void mostNodes() {
        DUE.sentence("THE TREE. (with the most nodes)");
        int[] accounts = {
            0x1170, 0x1171, 0x1270, 0x1271, 0x2170, 0x2171, 0x2270, 0x2271, 0x3170, 0x3171, 0x3270, 0x3271,
        };
        ProvenLedger x = new ProvenLedger();
        Reference reference = new Reference();
        for (int account : accounts) {
            x.grant(account, account);
            reference.grant(account, account);
        }
        Ledgers.nodesAre(DUE, "28 nodes", x, 12, 6, 10);
        DUE.is("size()", x.size(), reference.size());
        for (int k = 0; k < 4; k++) {
            DUE.is("root(" + k + ")", x.root(k), reference.root(k));
        }
        for (int account : accounts) {
            DUE.is("prove(" + account + ")", x.prove(account), reference.prove(account));
            DUE.is("check(" + account + ")", x.check(account), 1);
            DUE.is("proven(1)", x.proven(1), account);
        }
    }

    private static void byHash() {
        DUE.sentence("A node is REFERRED TO by its hash .. when its code has 32 bytes or more");
        String fork = "df" + Ledgers.items(4, LEAF_OF_256, LEAF_OF_256);
        proofIs("a fork of 32 bytes", Ledgers.of(0x1234, 256, 0x1235, 256), 0x1234,
                "e4 821123" + Hex.hashOf(fork), fork);
        String stem = "df 13 dd" + Ledgers.items(4, LEAF_OF_128, LEAF_OF_128);
        String above = "f838" + Ledgers.items(2, Hex.hashOf(stem), "c7 822034 83c28001");
        proofIs("a stem of 32 bytes", Ledgers.of(0x1234, 128, 0x1235, 128, 0x1334, 1), 0x1234,
                "e2 11" + Hex.hashOf(above), above, stem);
    }

    private static void byItself() {
        DUE.sentence("A node is REFERRED TO .. otherwise by itself, the list");
        proofIs("a fork of 31 bytes", Ledgers.of(0x1234, 128, 0x1235, 256), 0x1234,
                "e2 821123 de" + Ledgers.items(4, LEAF_OF_128, LEAF_OF_256));
        String stem = "de 13 dc" + Ledgers.items(4, LEAF_OF_1, LEAF_OF_128);
        String above = "f6" + Ledgers.items(2, stem, "c7 822034 83c28001");
        proofIs("a stem of 31 bytes", Ledgers.of(0x1234, 1, 0x1235, 128, 0x1334, 1), 0x1234,
                "e2 11" + Hex.hashOf(above), above);
    }

    private static void rootOfSome() {
        DUE.sentence("THE ROOT is the hash of the code of the node for all accounts that are there, at depth 0");
        Ledgers.rootIs(DUE, "a leaf of 9 bytes, hashed all the same", Ledgers.of(0x1234, 1), "c8 83201234 83c28001");
        Ledgers.rootIs(DUE, "a fork of 32 bytes", Ledgers.of(0, 1, 0xf000, 1),
                "df c7 823000 83c28001" + "80".repeat(14) + "c7 823000 83c28001 80");
    }

    private static void rootOfNone() {
        DUE.sentence("THE ROOT is .. when there are none, of the byte 128");
        ProvenLedger x = new ProvenLedger();
        Ledgers.rootIs(DUE, "a new ledger", x, "80");
        x.grant(5, 1);
        x.root(0);
        x.close(5);
        Ledgers.rootIs(DUE, "all closed", x, "80");
    }

    private static void proofOfNone() {
        DUE.sentence("PARTS .. the code of the node for all accounts (the byte 128 when there are none)");
        proofIs("none there", new ProvenLedger(), 0, "80");
        proofIs("none there", new ProvenLedger(), 65535, "80");
        ProvenLedger x = Ledgers.of(0x1234, 1);
        x.prove(0x1234);
        x.close(0x1234);
        proofIs("none there any more", x, 0x1234, "80");
    }

    private static void proofParts() {
        DUE.sentence("and then of each node that is met going down .. and that is referred to by its hash");
        ProvenLedger x = Ledgers.deep();
        DUE.is("all on the way by hash", x.prove(0x8001), 4);
        DUE.is("check", x.check(0x8001), 1);
        DUE.is("none on the way by hash", x.prove(0xa000), 1);
        DUE.is("check", x.check(0xa000), 1);
        DUE.is("some on the way by hash", x.prove(0x8100), 2);
        DUE.is("check", x.check(0x8100), 1);
    }

    // Here are, on the way to 0x1234, three parts: a stem for 1, a fork, and a stem for 3 with a fork inside.
    private static ProvenLedger threeParts() {
        return Ledgers.of(0x1234, 128, 0x1235, 128, 0x1334, 1);
    }

    private static void leafEndsTheWay() {
        DUE.sentence("(A leaf .. end the way.)");
        proofIs("its own leaf", Ledgers.of(0x1234, 1), 0x1234, "c8 83201234 83c28001");
        proofIs("another one's leaf", Ledgers.of(0x1234, 1), 0xffff, "c8 83201234 83c28001");
        proofEnds("its own leaf in part 1", threeParts(), 0x1334, 2, 1);
        proofEnds("another one's leaf in part 1", threeParts(), 0x1335, 2, 0);
        proofEnds("its own leaf in part 2", threeParts(), 0x1235, 3, 1);
    }

    private static void stemEndsTheWay() {
        DUE.sentence("(.. a stem that has not the account's digits .. end the way.)");
        proofEnds("a stem of one digit", threeParts(), 0x2234, 1, 0);
        proofEnds("a stem in the last part", threeParts(), 0x1244, 3, 0);
        proofEnds("another first digit of three", Ledgers.of(0x1234, 256, 0x1235, 256), 0x2234, 1, 0);
        proofEnds("another last digit of three", Ledgers.of(0x1234, 256, 0x1235, 256), 0x1244, 1, 0);
        proofEnds("all digits of three", Ledgers.of(0x1234, 256, 0x1235, 256), 0x123f, 2, 0);
    }

    private static void forkEndsTheWay() {
        DUE.sentence("(.. and a fork with nothing for the next digit end the way.)");
        proofEnds("a fork in part 0", Ledgers.deep(), 0x7001, 1, 0);
        proofEnds("a fork in part 1", threeParts(), 0x1434, 2, 0);
        proofEnds("a fork inside the last part", threeParts(), 0x1236, 3, 0);
    }

    private static void proofStays() {
        DUE.sentence("It is as it was made, but for what alter() and shorten() do, whatever becomes of the ledger");
        ProvenLedger x = Ledgers.of(0x1234, 100);
        x.prove(0x1234);
        List<String> made = Snapshot.ofProof(x);
        x.grant(0x1234, 100);
        x.root(0);
        DUE.same("after a grant", Snapshot.ofProof(x), made);
        x.grant(0x1235, 1);
        x.size();
        DUE.same("after a second account", Snapshot.ofProof(x), made);
        x.collector(7);
        x.send(0x1234, 0x1236, 50, 50, 0);
        x.nodes(0);
        DUE.same("after a send", Snapshot.ofProof(x), made);
        x.check(0x1234);
        DUE.same("after a check", Snapshot.ofProof(x), made);
        for (int account : new int[] {0x1234, 0x1235, 0x1236, 7}) {
            x.close(account);
        }
        x.root(0);
        DUE.same("after all are closed", Snapshot.ofProof(x), made);
        x.grant(0x1234, 100);
        DUE.is("good again when the accounts are as they were", x.check(0x1234), 1);
    }

    private static void proofAtFirst() {
        DUE.sentence("at first there are no parts");
        ProvenLedger x = Ledgers.deep();
        DUE.is("parts()", x.parts(), 0);
        DUE.is("length(0)", x.length(0), ProvenLedger.BAD);
        DUE.is("part(0, 0)", x.part(0, 0), ProvenLedger.BAD);
        DUE.isFalse("alter(0, 0, 1)", x.alter(0, 0, 1));
        DUE.is("shorten()", x.shorten(), ProvenLedger.BAD);
        DUE.is("check(0)", x.check(0), ProvenLedger.BAD);
    }

    private static void proofIs(String what, ProvenLedger x, int account, String... parts) {
        Ledgers.proofIs(DUE, what, x, account, parts);
    }

    private static void proofEnds(String what, ProvenLedger x, int account, int parts, int found) {
        DUE.is(what + ", prove(" + account + ")", x.prove(account), parts);
        DUE.is(what + ", check(" + account + ")", x.check(account), found);
    }
}
