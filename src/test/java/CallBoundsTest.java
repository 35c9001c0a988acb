/** The boundaries that "Terms" names for calls, their holds and ends, disputes and payments, on both sides. */
public final class CallBoundsTest {
    private static final int LET_THROUGH = TollGateway.LET_THROUGH;
    private static final int NO_TOKENS = TollGateway.NO_TOKENS;
    private static final int NO_CREDIT = TollGateway.NO_CREDIT;

    public static void main(String[] args) {
        noCallWithoutCreditOrTrust();
        callsAreNumberedFrom0AndAtMost80AreLetThrough();
        refusedCallsAreNotAmongThe80();
        theWorthIsThePriceTimesTheSize();
        fewerTokensThanTheWeight();
        tokensAboveTheSizeCount();
        tokensAheadOfCredit();
        creditAtLeastTheWorth();
        creditAloneMakesNoDebt();
        creditAndTrustAtLeastTheWorth();
        trustLessTheDebt();
        trustLessTheDebtIsAtLeast0();
        trustOf10000();
        aHoldIsOpenFor20Ticks();
        aHoldIsOpenFor20TicksOfOnePass();
        allOf80HoldsRunOut();
        halfIsRoundedUp();
        whatGoesBackLowersTheDebtFirst();
        aHoldThatRunsOutGivesNothingBack();
        disputedWithin50Ticks();
        disputedWithin50TicksBehindARunOut();
        disputedOnce();
        aDisputeLowersTheDebtFirst();
        aDisputeMayFillTheBucketAboveItsSize();
        disputesMayFillTheLargestBucketAboveItsSize();
        aPaymentLowersTheDebtFirst();
        Expect.finish();
    }

    // ---- calls that come

    private static void noCallWithoutCreditOrTrust() {
        for (int size = 1; size <= 9; size++) {
            TollGateway x = Prepared.withKey(0, 0);
            Expect.answer("neither credit nor trust", x.call(0, 0, size), NO_CREDIT);
            x.setRoute(0, 0, 1);
            Expect.answer("a worth of 0 needs neither", x.call(0, 0, size), LET_THROUGH);
        }
    }

    private static void callsAreNumberedFrom0AndAtMost80AreLetThrough() {
        TollGateway x = new TollGateway();
        x.setPlan(0, 100, 0, 0);
        x.addKey(0);
        x.setRoute(0, 0, 1);
        for (int call = 0; call < 80; call++) {
            Expect.answer("calls", x.calls(), call);
            Expect.answer("call " + call, x.call(0, 0, 1), LET_THROUGH);
            Expect.answer("it is open", x.cost(call), -1);
        }
        Expect.thrown("the 81st", IllegalStateException.class, () -> x.call(0, 0, 1));
        Expect.answer("calls", x.calls(), 80);
        Expect.answer("its tokens stay", x.tokens(0), 20);
        Expect.thrown("no call 80", IndexOutOfBoundsException.class, () -> x.cost(80));
        Expect.answer("the last one ends", x.end(79, 0), 0);
    }

    private static void refusedCallsAreNotAmongThe80() {
        TollGateway x = new TollGateway();
        x.setPlan(0, 80, 0, 0);
        x.addKey(0);
        x.setPlan(0, 1, 0, 0);
        x.addKey(0);
        x.setRoute(0, 0, 1);
        x.setRoute(1, 0, 2);
        for (int i = 0; i < 100; i++) {
            Expect.answer("refused for tokens", x.call(1, 1, 1), NO_TOKENS);
            Expect.answer("refused for credit", x.call(0, 2, 1), NO_CREDIT);
        }
        Expect.answer("calls", x.calls(), 0);
        for (int call = 0; call < 80; call++) {
            Expect.answer("call " + call, x.call(0, 0, 1), LET_THROUGH);
        }
    }

    private static void theWorthIsThePriceTimesTheSize() {
        for (int price : new int[] {0, 1, 999, 1000}) {
            for (int size = 1; size <= 9; size++) {
                TollGateway x = Prepared.withKey(10000, 0);
                x.setRoute(0, price, 1);
                x.call(0, 0, size);
                Expect.answer("held, " + price + " times " + size, x.held(0), price * size);
                Expect.answer("cost, " + price + " times " + size, x.end(0, 0), price * size);
            }
        }
    }

    private static void fewerTokensThanTheWeight() {
        for (int weight = 1; weight <= 20; weight++) {
            for (int tokens = weight - 1; tokens <= Math.min(20, weight + 1); tokens++) {
                TollGateway x = Prepared.withTokens(tokens);
                x.setRoute(0, 0, weight);
                int due = tokens < weight ? NO_TOKENS : LET_THROUGH;
                Expect.answer(tokens + " tokens for " + weight, x.call(0, 0, 1), due);
                Expect.answer("what is left", x.tokens(0), tokens < weight ? tokens : tokens - weight);
            }
        }
    }

    private static void tokensAboveTheSizeCount() {
        TollGateway x = Prepared.withTokens(20);
        x.setPlan(0, 1, 0, 0);
        x.setRoute(0, 0, 20);
        Expect.answer("20 tokens in a bucket of 1", x.call(0, 0, 1), LET_THROUGH);
        Expect.answer("none is left", x.tokens(0), 0);
    }

    private static void tokensAheadOfCredit() {
        TollGateway x = Prepared.withKey(0, 0);
        x.setRoute(0, 1, 11);
        Expect.answer("1 token and 1 credit too little", x.call(0, 0, 1), NO_TOKENS);
        x.setRoute(0, 1, 10);
        Expect.answer("1 credit too little", x.call(0, 0, 1), NO_CREDIT);
        x.setRoute(0, 0, 11);
        Expect.answer("1 token too little", x.call(0, 0, 1), NO_TOKENS);
        x.setRoute(0, 0, 10);
        Expect.answer("both are enough", x.call(0, 0, 1), LET_THROUGH);
    }

    private static void creditAtLeastTheWorth() {
        int[] prices = {1, 7, 1000};
        for (int price : prices) {
            for (int size : new int[] {1, 9}) {
                int worth = price * size;
                comes("1 less than the worth", worth - 1, 0, price, size, NO_CREDIT, worth - 1, 0);
                comes("the worth", worth, 0, price, size, LET_THROUGH, 0, 0);
                comes("1 more than the worth", worth + 1, 0, price, size, LET_THROUGH, 1, 0);
            }
        }
    }

    private static void creditAloneMakesNoDebt() {
        comes("the worth, and trust", 90, 10000, 10, 9, LET_THROUGH, 0, 0);
        comes("1 less than the worth, and trust", 89, 10000, 10, 9, LET_THROUGH, 0, 1);
        comes("no credit, and trust", 0, 10000, 10, 9, LET_THROUGH, 0, 90);
    }

    private static void creditAndTrustAtLeastTheWorth() {
        for (int credit : new int[] {0, 1, 45, 89}) {
            int rest = 90 - credit;
            comes("1 less than the worth", credit, rest - 1, 10, 9, NO_CREDIT, credit, 0);
            comes("the worth", credit, rest, 10, 9, LET_THROUGH, 0, rest);
            comes("1 more than the worth", credit, rest + 1, 10, 9, LET_THROUGH, 0, rest);
        }
    }

    private static void comes(String what, int credit, int line, int price, int size, int due, int left, int debt) {
        TollGateway x = Prepared.withKey(credit, line);
        x.setRoute(0, price, 1);
        String told = what + ", credit " + credit + ", line " + line + ", worth " + price * size;
        Expect.answer(told, x.call(0, 0, size), due);
        Expect.answer(told + ", credit then", x.credit(0), left);
        Expect.answer(told + ", debt then", x.debt(0), debt);
        Expect.answer(told + ", held then", x.held(0), due == LET_THROUGH ? price * size : 0);
        Expect.answer(told + ", tokens then", x.tokens(0), due == LET_THROUGH ? 9 : 10);
        Expect.answer(told + ", calls then", x.calls(), due == LET_THROUGH ? 1 : 0);
    }

    private static void trustLessTheDebt() {
        for (int price = 9; price <= 11; price++) {
            TollGateway x = Prepared.withKey(0, 50);
            x.call(0, 0, 4);
            x.setRoute(0, price, 1);
            Expect.answer("50 less 40 for " + price, x.call(0, 0, 1), price <= 10 ? LET_THROUGH : NO_CREDIT);
            Expect.answer("the debt then", x.debt(0), price <= 10 ? 40 + price : 40);
        }
    }

    private static void trustLessTheDebtIsAtLeast0() {
        for (int line : new int[] {0, 38, 39, 40}) {
            TollGateway x = Prepared.withKey(0, 50);
            x.call(0, 0, 4);
            x.setTrust(0, line);
            x.setRoute(0, 1, 1);
            Expect.answer("a worth of 1, debt 40, line " + line, x.call(0, 0, 1), NO_CREDIT);
            x.setRoute(0, 0, 1);
            Expect.answer("a worth of 0, debt 40, line " + line, x.call(0, 0, 1), LET_THROUGH);
            Expect.answer("the debt then", x.debt(0), 40);
        }
        TollGateway x = Prepared.withKey(0, 50);
        x.call(0, 0, 4);
        x.setTrust(0, 41);
        x.setRoute(0, 1, 1);
        Expect.answer("a worth of 1, debt 40, line 41", x.call(0, 0, 1), LET_THROUGH);
        Expect.answer("the debt then", x.debt(0), 41);
    }

    private static void trustOf10000() {
        TollGateway x = Prepared.withKey(0, 10000);
        x.setRoute(0, 1000, 1);
        x.call(0, 0, 9);
        Expect.answer("the line to its last", x.call(0, 0, 1), LET_THROUGH);
        Expect.answer("the most debt", x.debt(0), 10000);
        x.setRoute(0, 1, 1);
        Expect.answer("1 more", x.call(0, 0, 1), NO_CREDIT);
        Expect.answer("all is held", x.held(0), 10000);
    }

    // ---- holds that run out

    private static void aHoldIsOpenFor20Ticks() {
        for (int start : new int[] {0, 1, 19, 20, 21, 100}) {
            TollGateway x = Prepared.withKey(100, 0);
            for (int tick = 0; tick < start; tick++) {
                x.pass(1);
            }
            x.call(0, 0, 3);
            for (int tick = 1; tick < 20; tick++) {
                Expect.answer("tick " + tick + " of a hold", x.pass(1), 0);
                Expect.answer("it is open", x.cost(0), -1);
            }
            Expect.answer("it is held", x.held(0), 30);
            Expect.answer("the 20th tick of a hold", x.pass(1), 1);
            Expect.answer("as if it were good", x.cost(0), 30);
            Expect.answer("it is not held", x.held(0), 0);
            Expect.thrown("it has ended", IllegalStateException.class, () -> x.end(0, 2));
            Expect.answer("the 21st tick", x.pass(1), 0);
        }
    }

    private static void aHoldIsOpenFor20TicksOfOnePass() {
        for (int ticks : new int[] {1, 19, 20, 21, 100}) {
            TollGateway x = Prepared.withKey(100, 0);
            x.call(0, 0, 3);
            Expect.answer("a pass of " + ticks, x.pass(ticks), ticks < 20 ? 0 : 1);
            Expect.answer("the cost", x.cost(0), ticks < 20 ? -1 : 30);
        }
        for (int ended = 0; ended <= 19; ended++) {
            TollGateway x = Prepared.withKey(100, 0);
            x.call(0, 0, 3);
            if (ended > 0) {
                x.pass(ended);
            }
            Expect.answer("it ends at tick " + ended, x.end(0, 1), 15);
            Expect.answer("it does not run out", x.pass(100), 0);
            Expect.answer("its cost stays", x.cost(0), 15);
        }
    }

    /** All 80 calls at tick 0, of one key, each of a worth of 9000: the most that a call can be worth. */
    private static TollGateway withAll80OfTheMostWorth() {
        TollGateway x = new TollGateway();
        x.setPlan(0, 80, 0, 0);
        x.addKey(0);
        x.setRoute(0, 1000, 1);
        for (int payment = 0; payment < 8; payment++) {
            x.pay(0, 90000);
        }
        for (int call = 0; call < 80; call++) {
            x.call(0, 0, 9);
        }
        return x;
    }

    private static void allOf80HoldsRunOut() {
        TollGateway x = withAll80OfTheMostWorth();
        Expect.answer("at the 19th tick", x.pass(19), 0);
        Expect.answer("all are held", x.held(0), 720000);
        Expect.answer("at the 20th tick", x.pass(1), 80);
        Expect.answer("none is held", x.held(0), 0);
        Expect.answer("all is spent", x.spent(0), 720000);
        x.pass(50);
        for (int call = 0; call < 80; call++) {
            Expect.answer("what goes back", x.dispute(call), 9000);
        }
        Expect.answer("none is spent", x.spent(0), 0);
        Expect.answer("all has gone back", x.credit(0), 720000);
    }

    // ---- calls that end

    private static void halfIsRoundedUp() {
        int[] prices = {0, 1, 2, 3, 4, 5, 999, 1000};
        int[] halves = {0, 1, 1, 2, 2, 3, 500, 500};
        for (int i = 0; i < prices.length; i++) {
            ends(prices[i], 1, halves[i]);
        }
        ends(999, 9, 4496);
        ends(1000, 9, 4500);
    }

    private static void ends(int price, int size, int half) {
        int[] due = {price * size, half, 0};
        for (int outcome = 0; outcome <= 2; outcome++) {
            TollGateway x = Prepared.withKey(10000, 0);
            x.setRoute(0, price, 1);
            x.call(0, 0, size);
            String told = "outcome " + outcome + " of " + price * size;
            Expect.answer(told, x.end(0, outcome), due[outcome]);
            Expect.answer(told + ", cost", x.cost(0), due[outcome]);
            Expect.answer(told + ", spent", x.spent(0), due[outcome]);
            Expect.answer(told + ", credit", x.credit(0), 10000 - due[outcome]);
            Expect.answer(told + ", held", x.held(0), 0);
        }
    }

    /** One key with that debt, for call 0, which is open, and call 1, which was good, both of a worth of 20. */
    private static TollGateway withDebt(int debt) {
        TollGateway x = Prepared.withKey(0, 40);
        x.call(0, 0, 2);
        x.call(0, 0, 2);
        x.end(1, 0);
        x.pay(0, 40 - debt);
        return x;
    }

    private static void whatGoesBackLowersTheDebtFirst() {
        int[][] debts = {{11, 1, 0, 10}, {10, 0, 0, 10}, {9, 0, 1, 10}, {21, 1, 0, 20}, {20, 0, 0, 20}, {19, 0, 1, 20}};
        for (int[] row : debts) {
            TollGateway x = withDebt(row[0]);
            x.end(0, row[3] == 20 ? 2 : 1);
            Expect.answer(row[3] + " go back, debt " + row[0], x.debt(0), row[1]);
            Expect.answer(row[3] + " go back, credit", x.credit(0), row[2]);
        }
    }

    private static void aHoldThatRunsOutGivesNothingBack() {
        TollGateway x = withDebt(20);
        Expect.answer("it runs out", x.pass(20), 1);
        Expect.answer("the debt stays", x.debt(0), 20);
        Expect.answer("the credit stays", x.credit(0), 0);
        Expect.answer("both were good", x.spent(0), 40);
    }

    // ---- disputes

    private static void disputedWithin50Ticks() {
        int[] cost = {30, 15, 0};
        for (int outcome = 0; outcome <= 2; outcome++) {
            for (int ticks : new int[] {0, 1, 49, 50, 51, 52, 100}) {
                TollGateway x = Prepared.withKey(100, 0);
                x.pass(3);
                x.call(0, 0, 3);
                x.pass(4);
                x.end(0, outcome);
                if (ticks > 0) {
                    x.pass(ticks);
                }
                disputedOrNot("outcome " + outcome, x, ticks, cost[outcome]);
            }
        }
    }

    private static void disputedWithin50TicksBehindARunOut() {
        for (int ticks : new int[] {0, 1, 49, 50, 51, 52, 80}) {
            TollGateway x = Prepared.withKey(100, 0);
            x.call(0, 0, 3);
            x.pass(20 + ticks);
            disputedOrNot("a run-out in one pass", x, ticks, 30);
            TollGateway y = Prepared.withKey(100, 0);
            y.call(0, 0, 3);
            for (int tick = 0; tick < 20 + ticks; tick++) {
                y.pass(1);
            }
            disputedOrNot("a run-out in many passes", y, ticks, 30);
        }
    }

    private static void disputedOrNot(String what, TollGateway x, int ticks, int cost) {
        String told = what + ", " + ticks + " ticks behind its end";
        if (ticks <= 50) {
            Expect.answer(told, x.dispute(0), cost);
            Expect.answer(told + ", cost", x.cost(0), 0);
            Expect.answer(told + ", spent", x.spent(0), 0);
            Expect.answer(told + ", credit", x.credit(0), 100);
        } else {
            String before = Seen.of(x);
            Expect.thrown(told, IllegalStateException.class, () -> x.dispute(0));
            Expect.answer(told + ", all", Seen.of(x), before);
        }
    }

    private static void disputedOnce() {
        int[] cost = {30, 15, 0};
        for (int outcome = 0; outcome <= 2; outcome++) {
            for (int ticks : new int[] {0, 1, 50, 51}) {
                TollGateway x = Prepared.withKey(100, 0);
                x.call(0, 0, 3);
                x.end(0, outcome);
                Expect.answer("once", x.dispute(0), cost[outcome]);
                if (ticks > 0) {
                    x.pass(ticks);
                }
                String before = Seen.of(x);
                Expect.thrown("twice", IllegalStateException.class, () -> x.dispute(0));
                Expect.answer("twice, all", Seen.of(x), before);
            }
        }
    }

    private static void aDisputeLowersTheDebtFirst() {
        int[][] debts = {{21, 1, 0}, {20, 0, 0}, {19, 0, 1}, {1, 0, 19}};
        for (int[] row : debts) {
            TollGateway x = withDebt(row[0]);
            Expect.answer("what goes back", x.dispute(1), 20);
            Expect.answer("debt " + row[0], x.debt(0), row[1]);
            Expect.answer("credit", x.credit(0), row[2]);
        }
    }

    private static void aDisputeMayFillTheBucketAboveItsSize() {
        for (int size : new int[] {1, 16, 17, 18, 20, 100}) {
            TollGateway x = Prepared.withTokens(20);
            x.setRoute(0, 0, 4);
            x.call(0, 0, 1);
            x.call(0, 0, 1);
            x.end(0, 2);
            x.end(1, 1);
            x.setPlan(0, size, 5, 5);
            Expect.answer("what goes back", x.dispute(0), 0);
            Expect.answer("12 and 4 tokens, size " + size, x.tokens(0), 16);
            x.dispute(1);
            Expect.answer("16 and 4 tokens, size " + size, x.tokens(0), 20);
            x.pass(1);
            Expect.answer("20 tokens and a tick, size " + size, x.tokens(0), size > 20 ? 25 : 20);
        }
    }

    private static void disputesMayFillTheLargestBucketAboveItsSize() {
        TollGateway x = new TollGateway();
        x.setPlan(0, 100, 100, 100);
        x.addKey(0);
        x.setRoute(0, 0, 20);
        for (int call = 0; call < 15; call++) {
            x.call(0, 0, 1);
            x.end(call, 0);
            if (call % 5 == 4) {
                x.pass(1);
            }
        }
        for (int call = 0; call < 15; call++) {
            Expect.answer("100 tokens and " + call + " times 20", x.tokens(0), 100 + 20 * call);
            x.dispute(call);
        }
        x.pass(1);
        Expect.answer("a tick leaves them", x.tokens(0), 400);
        Expect.answer("a call takes its own", x.call(0, 0, 1), LET_THROUGH);
        x.pass(1);
        Expect.answer("they refill no more", x.tokens(0), 380);
    }

    // ---- payments

    private static void aPaymentLowersTheDebtFirst() {
        int[][] payments = {{1, 0, 29}, {29, 0, 1}, {30, 0, 0}, {31, 1, 0}, {100000, 99970, 0}};
        for (int[] row : payments) {
            TollGateway x = Prepared.withKey(0, 30);
            x.call(0, 0, 3);
            Expect.answer("the credit then, debt 30 and " + row[0], x.pay(0, row[0]), row[1]);
            Expect.answer("credit", x.credit(0), row[1]);
            Expect.answer("debt", x.debt(0), row[2]);
            Expect.answer("paid", x.paid(0), row[0]);
        }
    }
}
