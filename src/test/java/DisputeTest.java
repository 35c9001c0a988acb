/** Promise 10 and what 14, 15, 17, 19 and 20 tell of it: disputes. */
public final class DisputeTest {
    public static void main(String[] args) {
        promise10EachOutcome();
        promise10OnceOnly();
        promise10NotOpenCalls();
        promise10Within50Ticks();
        promise10Within50TicksOfARunOut();
        promise10ToTheDebtFirst();
        promise10TokensAboveTheSize();
        promise10OfTheOtherKey();
        Expect.finish();
    }

    private static TollGateway withCall(int price, int weight) {
        TollGateway x = new TollGateway();
        x.addKey(0);
        x.pay(0, 100);
        x.setRoute(0, price, weight);
        x.call(0, 0, 1);
        return x;
    }

    private static void promise10EachOutcome() {
        int[] due = {15, 8, 0};
        for (int outcome = 0; outcome < 3; outcome++) {
            TollGateway x = withCall(15, 4);
            x.end(0, outcome);
            Expect.answer("20: spent", x.spent(0), due[outcome]);
            Expect.answer("10: what goes back", x.dispute(0), due[outcome]);
            Expect.answer("10: then", Seen.of(x, 1), "now 0 calls 1 key0 100 0 0 10 false 0 100 call0 0");
        }
    }

    private static void promise10OnceOnly() {
        for (int outcome = 0; outcome < 3; outcome++) {
            TollGateway x = withCall(15, 4);
            x.end(0, outcome);
            x.dispute(0);
            Expect.thrown("10: again", IllegalStateException.class, () -> x.dispute(0));
            Expect.thrown("9: it has ended", IllegalStateException.class, () -> x.end(0, 0));
            Expect.answer("10: the tokens came once", x.tokens(0), 10);
            Expect.answer("10: the money came once", x.credit(0), 100);
        }
    }

    private static void promise10NotOpenCalls() {
        TollGateway x = withCall(15, 4);
        Expect.thrown("10: open", IllegalStateException.class, () -> x.dispute(0));
        x.pass(19);
        Expect.thrown("10: still open", IllegalStateException.class, () -> x.dispute(0));
        Expect.answer("10: nothing came back", x.credit(0), 85);
        x.end(0, 0);
        Expect.answer("10: ended", x.dispute(0), 15);
    }

    private static void promise10Within50Ticks() {
        TollGateway x = withCall(15, 4);
        x.pass(7);
        x.end(0, 1);
        x.pass(50);
        Expect.answer("10: 50 ticks behind its end", x.dispute(0), 8);
        TollGateway y = withCall(15, 4);
        y.pass(7);
        y.end(0, 1);
        y.pass(51);
        Expect.thrown("10: 51 ticks behind its end", IllegalStateException.class, () -> y.dispute(0));
        Expect.answer("10: nothing came back", y.credit(0), 92);
        Expect.answer("19: its cost stays", y.cost(0), 8);
    }

    private static void promise10Within50TicksOfARunOut() {
        TollGateway x = withCall(15, 4);
        x.pass(70);
        Expect.answer("10: it ran out 50 ticks ago", x.dispute(0), 15);
        TollGateway y = withCall(15, 4);
        y.pass(71);
        Expect.thrown("10: it ran out 51 ticks ago", IllegalStateException.class, () -> y.dispute(0));
    }

    private static void promise10ToTheDebtFirst() {
        TollGateway x = new TollGateway();
        x.addKey(0);
        x.setTrust(0, 30);
        x.call(0, 0, 2);
        x.call(0, 0, 1);
        x.end(0, 0);
        x.end(1, 0);
        x.pay(0, 5);
        Expect.answer("10: what goes back", x.dispute(0), 20);
        Expect.answer("10: to the debt", x.debt(0), 5);
        Expect.answer("10: not to the credit", x.credit(0), 0);
        Expect.answer("18: a debt is no credit", x.isSlowed(0), true);
        Expect.answer("10: what goes back", x.dispute(1), 10);
        Expect.answer("10: to the debt", x.debt(0), 0);
        Expect.answer("10: the rest to the credit", x.credit(0), 5);
        Expect.answer("18: with credit", x.isSlowed(0), false);
        Expect.answer("20: spent", x.spent(0), 0);
    }

    private static void promise10TokensAboveTheSize() {
        TollGateway x = withCall(0, 8);
        x.pass(100);
        Expect.answer("17: full again", x.tokens(0), 10);
        x.setRoute(1, 1, 5);
        x.call(0, 1, 1);
        x.end(1, 0);
        x.pass(5);
        Expect.answer("17: full again", x.tokens(0), 10);
        x.dispute(1);
        Expect.answer("10: more than the size", x.tokens(0), 15);
        x.pass(3);
        Expect.answer("17: they stay", x.tokens(0), 15);
        x.setRoute(0, 0, 15);
        Expect.answer("17: and can be used", x.call(0, 0, 1), TollGateway.LET_THROUGH);
        Expect.answer("17: all of them", x.tokens(0), 0);
    }

    private static void promise10OfTheOtherKey() {
        TollGateway x = withCall(15, 4);
        x.addKey(0);
        x.pay(1, 50);
        x.call(1, 0, 2);
        x.end(1, 0);
        x.end(0, 0);
        Expect.answer("10: call 1 is of key 1", x.dispute(1), 30);
        Expect.answer("10: key 0", x.credit(0), 85);
        Expect.answer("10: key 1", x.credit(1), 50);
        Expect.answer("10: tokens of key 0", x.tokens(0), 6);
        Expect.answer("10: tokens of key 1", x.tokens(1), 10);
    }
}
