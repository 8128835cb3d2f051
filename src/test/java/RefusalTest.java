import java.util.List;
import java.util.function.Supplier;
import java.util.function.ToLongFunction;

/**
 * "A call that is refused changes nothing. Of several reasons to refuse, the one that stands first is
 * answered." Every refused call is made on one of two ledgers that have come by the same calls to the same
 * state; both must then answer the same.
 */
public final class RefusalTest {
    private static final Due DUE = new Due("RefusalTest");
    private static final long MOST = 1000000000000L;
    private static final int RICH = 0x8001;
    private static final int COLLECTOR = 0x8100;
    private static final int ABSENT = 0x7777;
    // All accounts of the states below, and those that a refused call could touch.
    private static final int[] SEEN = {
        0, 1, 0x10, 0x8000, RICH, 0x8002, 0x8010, COLLECTOR, 0xa000, 0x2000, 0x3000, 0x4000, ABSENT, 65535,
    };

    private RefusalTest() {
    }

    public static void main(String[] args) {
        newObject();
        collectorRefused();
        grantBad();
        grantFull();
        sendBad();
        sendWrongNonce();
        sendPoor();
        sendFull();
        closeRefused();
        proveRefused();
        alterNoSuchByte();
        alterNoByte();
        shortenRefused();
        checkRefused();
        questions();
        firstReasonOfGrant();
        firstReasonOfSend();
        DUE.end();
    }

    /** States to refuse in. In each of them RICH has the nonce 2 and a balance of 488. */
    private enum State implements Supplier<ProvenLedger> {
        WITHOUT_A_PROOF {
            @Override
            public ProvenLedger get() {
                return used();
            }
        },
        FOUND {
            @Override
            public ProvenLedger get() {
                ProvenLedger x = used();
                x.prove(RICH);
                x.check(RICH);
                return x;
            }
        },
        SPOILT {
            @Override
            public ProvenLedger get() {
                ProvenLedger x = FOUND.get();
                x.shorten();
                x.alter(0, 0, 0);
                x.alter(2, 1, 255);
                return x;
            }
        },
        FULL {
            @Override
            public ProvenLedger get() {
                ProvenLedger x = used();
                for (int account : new int[] {0x2000, 0x3000, 0x4000}) {
                    x.grant(account, 1);
                }
                x.prove(RICH);
                x.check(RICH);
                return x;
            }
        };

        /** Nine accounts, some with a nonce, and one of them the collector. */
        private static ProvenLedger used() {
            ProvenLedger x = Ledgers.deep();
            x.collector(COLLECTOR);
            x.send(RICH, 0xa000, 5, 1, 0);
            x.send(RICH, 0xa000, 5, 1, 1);
            x.send(0x8000, 0x8000, 0, 100, 0);
            return x;
        }
    }

    private static void newObject() {
        DUE.sentence("A call that is refused changes nothing. (a new object)");
        Supplier<ProvenLedger> made = ProvenLedger::new;
        refused(made, "collector(65536)", x -> bit(x.collector(65536)), 0);
        refused(made, "grant(65536, 1)", x -> x.grant(65536, 1), ProvenLedger.BAD);
        refused(made, "grant(0, 0)", x -> x.grant(0, 0), ProvenLedger.BAD);
        refused(made, "send(0, 65536, 0, 0, 0)", x -> x.send(0, 65536, 0, 0, 0), ProvenLedger.BAD);
        refused(made, "send(0, 0, 0, 0, 1)", x -> x.send(0, 0, 0, 0, 1), ProvenLedger.WRONG_NONCE);
        refused(made, "send(0, 0, 1, 0, 0)", x -> x.send(0, 0, 1, 0, 0), ProvenLedger.POOR);
        refused(made, "send(0, 0, 0, 1, 0)", x -> x.send(0, 0, 0, 1, 0), ProvenLedger.POOR);
        refused(made, "close(0)", x -> bit(x.close(0)), 0);
        refused(made, "prove(65536)", x -> x.prove(65536), ProvenLedger.BAD);
        refused(made, "alter(0, 0, 128)", x -> bit(x.alter(0, 0, 128)), 0);
        refused(made, "shorten()", x -> x.shorten(), ProvenLedger.BAD);
        refused(made, "check(65536)", x -> x.check(65536), ProvenLedger.BAD);
    }

    private static void collectorRefused() {
        DUE.sentence("collector: refused with false when account is not 0 .. 65535");
        for (int account : Ledgers.NO_ACCOUNTS) {
            everywhere("collector(" + account + ")", x -> bit(x.collector(account)), 0);
        }
    }

    private static void grantBad() {
        DUE.sentence("grant: BAD when account is not 0 .. 65535 or amount is not 1 .. 1000000000000");
        for (int account : Ledgers.NO_ACCOUNTS) {
            everywhere("grant(" + account + ", 1)", x -> x.grant(account, 1), ProvenLedger.BAD);
        }
        for (long amount : new long[] {0, -1, MOST + 1, Long.MIN_VALUE, Long.MAX_VALUE}) {
            everywhere("grant(RICH, " + amount + ")", x -> x.grant(RICH, amount), ProvenLedger.BAD);
            everywhere("grant(0, " + amount + ")", x -> x.grant(0, amount), ProvenLedger.BAD);
        }
    }

    private static void grantFull() {
        DUE.sentence("grant: FULL when 13 would be there");
        refused(State.FULL, "grant(ABSENT, 1)", x -> x.grant(ABSENT, 1), ProvenLedger.FULL);
        refused(State.FULL, "grant(65535, most)", x -> x.grant(65535, MOST), ProvenLedger.FULL);
    }

    private static void sendBad() {
        DUE.sentence("send: BAD when from or to is not 0 .. 65535, or amount or fee is not 0 .. 1000000000000");
        for (int account : Ledgers.NO_ACCOUNTS) {
            everywhere("from " + account, x -> x.send(account, 0, 0, 0, 0), ProvenLedger.BAD);
            everywhere("to " + account, x -> x.send(RICH, account, 0, 0, 2), ProvenLedger.BAD);
        }
        for (long amount : new long[] {-1, MOST + 1, Long.MIN_VALUE, Long.MAX_VALUE}) {
            everywhere("the amount " + amount, x -> x.send(RICH, 0, amount, 0, 2), ProvenLedger.BAD);
            everywhere("the fee " + amount, x -> x.send(RICH, 0, 0, amount, 2), ProvenLedger.BAD);
        }
    }

    private static void sendWrongNonce() {
        DUE.sentence("send: WRONG_NONCE when nonce is not that of from");
        for (int nonce : new int[] {1, 3, 0, -1, Integer.MIN_VALUE, Integer.MAX_VALUE}) {
            everywhere("the nonce " + nonce, x -> x.send(RICH, 0, 1, 1, nonce), ProvenLedger.WRONG_NONCE);
        }
        everywhere("of one that is not there", x -> x.send(ABSENT, 0, 0, 0, 1), ProvenLedger.WRONG_NONCE);
    }

    private static void sendPoor() {
        DUE.sentence("send: POOR when amount and fee together are more than the balance of from");
        everywhere("the amount", x -> x.send(RICH, 0, 489, 0, 2), ProvenLedger.POOR);
        everywhere("the fee", x -> x.send(RICH, 0, 0, 489, 2), ProvenLedger.POOR);
        everywhere("both", x -> x.send(RICH, 0, 244, 245, 2), ProvenLedger.POOR);
        everywhere("to itself", x -> x.send(RICH, RICH, 489, 0, 2), ProvenLedger.POOR);
        everywhere("the collector's own fee", x -> x.send(COLLECTOR, 0, 0, 603, 0), ProvenLedger.POOR);
        everywhere("one by its nonce", x -> x.send(0x8000, 0, 1, 0, 1), ProvenLedger.POOR);
        everywhere("one that is not there", x -> x.send(ABSENT, 0, 1, 0, 0), ProvenLedger.POOR);
    }

    private static void sendFull() {
        DUE.sentence("send: FULL when 13 accounts would be there");
        refused(State.FULL, "by to", x -> x.send(RICH, ABSENT, 1, 1, 2), ProvenLedger.FULL);
        refused(State.FULL, "by from", x -> x.send(ABSENT, RICH, 0, 0, 0), ProvenLedger.FULL);
        refused(State.FULL, "by from to itself", x -> x.send(65535, 65535, 0, 0, 0), ProvenLedger.FULL);
        refused(State.FULL, "all that it has", x -> x.send(RICH, ABSENT, 488, 0, 2), ProvenLedger.FULL);
        Supplier<ProvenLedger> otherCollector = () -> {
            ProvenLedger x = State.FULL.get();
            x.collector(ABSENT);
            return x;
        };
        DUE.is("by the collector", otherCollector.get().send(RICH, RICH, 0, 1, 2), ProvenLedger.FULL);
        ProvenLedger refused = otherCollector.get();
        refused.send(RICH, 0xa000, 7, 1, 2);
        ProvenLedger untouched = otherCollector.get();
        refused.collector(COLLECTOR);
        untouched.collector(COLLECTOR);
        DUE.same("by the collector", Snapshot.of(refused, SEEN, RICH), Snapshot.of(untouched, SEEN, RICH));
    }

    private static void closeRefused() {
        DUE.sentence("close: refused with false when it is not there (or account is not 0 .. 65535)");
        everywhere("close(ABSENT)", x -> bit(x.close(ABSENT)), 0);
        everywhere("close(65535)", x -> bit(x.close(65535)), 0);
        for (int account : Ledgers.NO_ACCOUNTS) {
            everywhere("close(" + account + ")", x -> bit(x.close(account)), 0);
        }
    }

    private static void proveRefused() {
        DUE.sentence("prove: BAD when account is not 0 .. 65535");
        for (int account : Ledgers.NO_ACCOUNTS) {
            everywhere("prove(" + account + ")", x -> x.prove(account), ProvenLedger.BAD);
        }
    }

    private static void alterNoSuchByte() {
        DUE.sentence("alter: refused with false when there is no such byte");
        for (State state : State.values()) {
            ProvenLedger known = state.get();
            for (int p : new int[] {-1, known.parts(), known.parts() + 1, 4, 5, Integer.MIN_VALUE, Integer.MAX_VALUE}) {
                refused(state, "alter(" + p + ", 0, 77)", x -> bit(x.alter(p, 0, 77)), 0);
            }
            for (int part = 0; part < known.parts(); part++) {
                int p = part;
                int length = known.length(p);
                for (int i : new int[] {-1, length, length + 1, Integer.MIN_VALUE, Integer.MAX_VALUE}) {
                    refused(state, "alter(" + p + ", " + i + ", 77)", x -> bit(x.alter(p, i, 77)), 0);
                }
            }
        }
    }

    private static void alterNoByte() {
        DUE.sentence("alter: refused with false when .. b is not 0 .. 255");
        for (int b : new int[] {-1, 256, Integer.MIN_VALUE, Integer.MAX_VALUE}) {
            everywhere("alter(0, 0, " + b + ")", x -> bit(x.alter(0, 0, b)), 0);
            everywhere("alter(2, 1, " + b + ")", x -> bit(x.alter(2, 1, b)), 0);
        }
    }

    private static void shortenRefused() {
        DUE.sentence("shorten: BAD when there are none");
        refused(State.WITHOUT_A_PROOF, "shorten()", x -> x.shorten(), ProvenLedger.BAD);
        Supplier<ProvenLedger> shortened = () -> {
            ProvenLedger x = State.FOUND.get();
            for (int left = 3; left >= 0; left--) {
                x.shorten();
            }
            return x;
        };
        refused(shortened, "shorten()", x -> x.shorten(), ProvenLedger.BAD);
    }

    // It changes nothing but what promise 19 says of every check() that answered BAD, for whatever account.
    private static void checkRefused() {
        DUE.sentence("check: BAD when .. account is not 0 .. 65535");
        for (State state : State.values()) {
            for (int account : Ledgers.NO_ACCOUNTS) {
                ProvenLedger refused = state.get();
                DUE.is("check(" + account + ")", refused.check(account), ProvenLedger.BAD);
                for (int what = -1; what <= 2; what++) {
                    DUE.is("then proven(" + what + ") in the state " + state, refused.proven(what), 0);
                }
                DUE.same("check(" + account + ") in the state " + state,
                        Snapshot.withoutProven(refused, SEEN, RICH), Snapshot.withoutProven(state.get(), SEEN, RICH));
            }
        }
    }

    private static void questions() {
        DUE.sentence("A call that is refused changes nothing. (questions about what there is not)");
        for (int far : Ledgers.NO_ACCOUNTS) {
            everywhere("nonce(" + far + ")", x -> x.nonce(far), 0);
            everywhere("balance(" + far + ")", x -> x.balance(far), 0);
            everywhere("root(" + far + ")", x -> x.root(far), 0);
            everywhere("nodes(" + far + ")", x -> x.nodes(far), ProvenLedger.BAD);
            everywhere("length(" + far + ")", x -> x.length(far), ProvenLedger.BAD);
            everywhere("part(" + far + ", 0)", x -> x.part(far, 0), ProvenLedger.BAD);
            everywhere("part(0, " + far + ")", x -> x.part(0, far), ProvenLedger.BAD);
            everywhere("proven(" + far + ")", x -> x.proven(far), 0);
        }
        everywhere("root(4)", x -> x.root(4), 0);
        everywhere("nodes(3)", x -> x.nodes(3), ProvenLedger.BAD);
        everywhere("length(parts())", x -> x.length(x.parts()), ProvenLedger.BAD);
        everywhere("proven(2)", x -> x.proven(2), 0);
    }

    private static void firstReasonOfGrant() {
        DUE.sentence("Of several reasons to refuse, the one that stands first is answered. (grant)");
        refused(State.FULL, "BAD and FULL", x -> x.grant(ABSENT, 0), ProvenLedger.BAD);
        refused(State.FULL, "BAD and FULL", x -> x.grant(ABSENT, MOST + 1), ProvenLedger.BAD);
        refused(State.FULL, "BAD and FULL", x -> x.grant(65536, 1), ProvenLedger.BAD);
    }

    // Every set of the four reasons.
    private static void firstReasonOfSend() {
        DUE.sentence("Of several reasons to refuse, the one that stands first is answered. (send)");
        for (int reasons = 1; reasons < 16; reasons++) {
            boolean bad = (reasons & 1) != 0;
            boolean wrongNonce = (reasons & 2) != 0;
            boolean poor = (reasons & 4) != 0;
            boolean full = (reasons & 8) != 0;
            int to = full ? ABSENT : 0xa000;
            long amount = poor ? 489 : 488;
            int nonce = wrongNonce ? 1 : 2;
            int answer = bad ? ProvenLedger.BAD : wrongNonce ? ProvenLedger.WRONG_NONCE
                    : poor ? ProvenLedger.POOR : ProvenLedger.FULL;
            String what = "reasons " + reasons;
            refused(State.FULL, what, x -> x.send(RICH, to, amount, bad ? -1 : 0, nonce), answer);
            if (bad) {
                refused(State.FULL, what, x -> x.send(RICH, to, amount, MOST + 1, nonce), answer);
                refused(State.FULL, what, x -> x.send(RICH, 65536, amount, 0, nonce), answer);
                refused(State.FULL, what, x -> x.send(-1, to, amount, 0, nonce), answer);
            }
        }
    }

    private static void everywhere(String what, ToLongFunction<ProvenLedger> call, long answer) {
        for (State state : State.values()) {
            refused(state, what, call, answer);
        }
    }

    private static void refused(Supplier<ProvenLedger> made, String what, ToLongFunction<ProvenLedger> call, long answer) {
        ProvenLedger refused = made.get();
        String where = made instanceof State ? what + " in the state " + made : what;
        DUE.is(where, call.applyAsLong(refused), answer);
        List<String> untouched = Snapshot.of(made.get(), SEEN, RICH);
        DUE.same(where, Snapshot.of(refused, SEEN, RICH), untouched);
    }

    private static long bit(boolean answer) {
        return answer ? 1 : 0;
    }
}
