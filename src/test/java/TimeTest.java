/** Promises 11, 12, 17 and 18: ticks, holds that run out, buckets, slowed keys. */
public final class TimeTest {
    public static void main(String[] args) {
        promise12Now();
        promise11RunsOutAtThe20thTick();
        promise11RunsOutAsGood();
        promise11CountsWhatRunsOut();
        promise11EndedHoldsDoNotRunOut();
        promise11OneLongPassIsManyShortOnes();
        promise17Refill();
        promise17RunsOutAheadOfTheRefill();
        promise18Slowed();
        promise18HoldsOfZero();
        Expect.finish();
    }

    private static void promise12Now() {
        TollGateway x = new TollGateway();
        Expect.answer("11: none", x.pass(1), 0);
        Expect.answer("12: one tick", x.now(), 1);
        x.pass(100);
        Expect.answer("12: a hundred more", x.now(), 101);
        for (int i = 0; i < 450; i++) {
            x.pass(100);
        }
        Expect.answer("12: many", x.now(), 45101);
    }

    private static TollGateway withCredit(int money) {
        TollGateway x = new TollGateway();
        x.addKey(0);
        x.pay(0, money);
        return x;
    }

    private static void promise11RunsOutAtThe20thTick() {
        for (int start = 0; start < 3; start++) {
            TollGateway x = withCredit(100);
            for (int i = 0; i < start; i++) {
                x.pass(1);
            }
            x.call(0, 0, 4);
            Expect.answer("11: 19 ticks", x.pass(19), 0);
            Expect.answer("16: still held", x.held(0), 40);
            Expect.answer("19: still open", x.cost(0), -1);
            Expect.answer("11: the 20th tick", x.pass(1), 1);
            Expect.answer("16: not held", x.held(0), 0);
            Expect.answer("19: its cost", x.cost(0), 40);
            Expect.answer("11: it runs out once", x.pass(100), 0);
            Expect.answer("20: spent once", x.spent(0), 40);
        }
    }

    private static void promise11RunsOutAsGood() {
        TollGateway x = withCredit(5);
        x.setTrust(0, 50);
        x.call(0, 0, 3);
        x.pass(20);
        Expect.answer("11: as good", Seen.of(x, 1), "now 20 calls 1 key0 0 25 0 10 true 30 5 call0 30");
        Expect.thrown("9: it has ended", IllegalStateException.class, () -> x.end(0, 2));
    }

    private static void promise11CountsWhatRunsOut() {
        TollGateway x = withCredit(100);
        x.addKey(0);
        x.setTrust(1, 100);
        x.call(0, 0, 1);
        x.call(1, 0, 1);
        x.pass(5);
        x.call(0, 0, 1);
        x.pass(1);
        x.call(1, 0, 1);
        x.call(0, 0, 1);
        Expect.answer("11: 13 ticks", x.pass(13), 0);
        Expect.answer("11: two keys' holds", x.pass(1), 2);
        Expect.answer("11: 4 ticks", x.pass(4), 0);
        Expect.answer("11: at two ticks", x.pass(2), 3);
        Expect.answer("20: of key 0", x.spent(0), 30);
        Expect.answer("20: of key 1", x.spent(1), 20);
    }

    private static void promise11EndedHoldsDoNotRunOut() {
        TollGateway x = withCredit(100);
        x.call(0, 0, 1);
        x.call(0, 0, 1);
        x.call(0, 0, 1);
        x.pass(19);
        x.end(0, 2);
        x.end(2, 1);
        Expect.answer("11: one is left", x.pass(1), 1);
        Expect.answer("19: failed", x.cost(0), 0);
        Expect.answer("19: ran out", x.cost(1), 10);
        Expect.answer("19: bad", x.cost(2), 5);
        Expect.answer("20: spent", x.spent(0), 15);
    }

    private static void promise11OneLongPassIsManyShortOnes() {
        TollGateway x = busy();
        TollGateway y = busy();
        int ranOut = 0;
        for (int i = 0; i < 100; i++) {
            ranOut += x.pass(1);
        }
        Expect.answer("11: as many run out", y.pass(100), ranOut);
        Expect.answer("11: and all is the same", Seen.of(y, 2), Seen.of(x, 2));
    }

    private static TollGateway busy() {
        TollGateway x = withCredit(30);
        x.setPlan(1, 90, 2, 1);
        x.addKey(1);
        x.setTrust(1, 100);
        x.setRoute(0, 10, 9);
        x.call(0, 0, 3);
        for (int i = 0; i < 9; i++) {
            x.call(1, 0, 1);
            x.pass(2);
        }
        return x;
    }

    private static void promise17Refill() {
        TollGateway x = new TollGateway();
        x.setPlan(0, 20, 3, 1);
        x.addKey(0);
        x.pay(0, 10);
        x.setRoute(0, 0, 20);
        x.call(0, 0, 1);
        Expect.answer("17: empty", x.tokens(0), 0);
        x.pass(6);
        Expect.answer("17: 3 a tick", x.tokens(0), 18);
        x.pass(1);
        Expect.answer("17: at most the size", x.tokens(0), 20);
        x.pass(50);
        Expect.answer("17: at most the size", x.tokens(0), 20);
    }

    private static void promise17RunsOutAheadOfTheRefill() {
        TollGateway x = new TollGateway();
        x.setPlan(0, 100, 4, 1);
        x.addKey(0);
        x.setTrust(0, 10);
        x.setRoute(0, 10, 20);
        for (int i = 0; i < 4; i++) {
            x.setRoute(0, 0, 20);
            x.call(0, 0, 1);
            x.end(i, 0);
        }
        x.setRoute(0, 10, 20);
        x.call(0, 0, 1);
        Expect.answer("18: an open hold", x.isSlowed(0), false);
        x.pass(19);
        Expect.answer("17: 4 a tick", x.tokens(0), 76);
        x.pass(1);
        Expect.answer("18: the hold ran out", x.isSlowed(0), true);
        Expect.answer("17: slow at that tick already", x.tokens(0), 77);
        x.pass(2);
        Expect.answer("17: slow", x.tokens(0), 79);
        x.pay(0, 10);
        Expect.answer("18: a debt paid is no credit", x.isSlowed(0), true);
        x.pay(0, 1);
        Expect.answer("18: with credit", x.isSlowed(0), false);
        x.pass(1);
        Expect.answer("17: 4 a tick again", x.tokens(0), 83);
    }

    private static void promise18Slowed() {
        TollGateway x = new TollGateway();
        x.addKey(0);
        x.addKey(0);
        Expect.answer("18: without credit", x.isSlowed(0), true);
        x.setTrust(0, 10);
        Expect.answer("18: trust is no credit", x.isSlowed(0), true);
        x.pay(0, 10);
        Expect.answer("18: with credit", x.isSlowed(0), false);
        Expect.answer("18: the other key", x.isSlowed(1), true);
        x.call(0, 0, 1);
        Expect.answer("18: with a hold", x.isSlowed(0), false);
        x.call(0, 0, 1);
        x.end(0, 0);
        Expect.answer("18: with a hold that is debt", x.isSlowed(0), false);
        x.end(1, 0);
        Expect.answer("18: with neither", x.isSlowed(0), true);
        x.dispute(0);
        Expect.answer("18: the debt is paid, no more", x.isSlowed(0), true);
        x.dispute(1);
        Expect.answer("18: what went back is credit", x.isSlowed(0), false);
    }

    private static void promise18HoldsOfZero() {
        TollGateway x = new TollGateway();
        x.setPlan(0, 10, 2, 1);
        x.setRoute(0, 0, 10);
        x.addKey(0);
        x.call(0, 0, 9);
        Expect.answer("16: a hold of 0", x.held(0), 0);
        Expect.answer("18: it is a hold, too", x.isSlowed(0), false);
        x.pass(1);
        Expect.answer("17: not slow", x.tokens(0), 2);
        Expect.answer("11: not yet", x.pass(18), 0);
        Expect.answer("11: it runs out", x.pass(1), 1);
        Expect.answer("19: its cost", x.cost(0), 0);
        Expect.answer("18: no hold", x.isSlowed(0), true);
    }
}
