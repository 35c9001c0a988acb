/** Promises 1 to 6: a new object, plans, routes, keys. */
public final class SettingsTest {
    public static void main(String[] args) {
        promise1NewObject();
        promise2PlanDefaults();
        promise2Plan();
        promise2BucketsKeepTheirTokens();
        promise3RouteDefaults();
        promise3Route();
        promise3OpenCallsKeepTheirWorth();
        promise4AddKey();
        promise5SetKeyPlan();
        promise6SetTrust();
        promise6LineBelowTheDebt();
        Expect.finish();
    }

    private static void promise1NewObject() {
        TollGateway x = new TollGateway();
        Expect.answer("1: now", x.now(), 0);
        Expect.answer("1: calls", x.calls(), 0);
        Expect.thrown("1: no key 0", IndexOutOfBoundsException.class, () -> x.credit(0));
        Expect.thrown("1: no call 0", IndexOutOfBoundsException.class, () -> x.cost(0));
        x.addKey(0);
        x.pass(3);
        Expect.answer("1: objects share nothing", Seen.of(new TollGateway(), 0), "now 0 calls 0");
        TollGateway y = new TollGateway();
        y.addKey(0);
        x.setPlan(0, 1, 0, 0);
        x.setRoute(0, 1, 1);
        y.setTrust(0, 10);
        y.call(0, 0, 1);
        Expect.answer("1: objects share no route", y.held(0), 10);
        y.pass(1);
        Expect.answer("1: objects share no plan", y.tokens(0), 10);
    }

    private static void promise2PlanDefaults() {
        for (int plan = 0; plan < 4; plan++) {
            TollGateway x = new TollGateway();
            x.addKey(plan);
            Expect.answer("2: the size at first", x.tokens(0), 10);
            x.setRoute(0, 0, 10);
            x.call(0, 0, 1);
            x.pass(2);
            Expect.answer("2: the refill at first", x.tokens(0), 2);
            x.end(0, 0);
            x.pass(5);
            Expect.answer("2: the slow refill at first", x.tokens(0), 2);
        }
    }

    private static void promise2Plan() {
        int[][] plans = {{1, 0, 0}, {100, 100, 100}, {100, 100, 0}, {100, 0, 0}, {50, 7, 3}, {9, 4, 4}};
        for (int i = 0; i < plans.length; i++) {
            int plan = i % 4;
            int size = plans[i][0];
            int refill = plans[i][1];
            int slow = plans[i][2];
            TollGateway x = new TollGateway();
            x.setPlan(plan, size, refill, slow);
            x.addKey(plan);
            Expect.answer("2: a new bucket is full", x.tokens(0), size);
            x.setRoute(0, 0, 1);
            for (int call = 0; call < 30 && x.tokens(0) > 0; call++) {
                x.call(0, 0, 1);
            }
            int left = x.tokens(0);
            x.pass(1);
            Expect.answer("2: refill", x.tokens(0), Math.min(size, left + refill));
            for (int call = 0; call < x.calls(); call++) {
                x.end(call, 0);
            }
            left = x.tokens(0);
            x.pass(1);
            Expect.answer("2: slow refill", x.tokens(0), Math.min(size, left + slow));
        }
    }

    private static void promise2BucketsKeepTheirTokens() {
        TollGateway x = new TollGateway();
        x.addKey(2);
        x.pay(0, 1);
        x.setPlan(2, 4, 2, 0);
        Expect.answer("2: a smaller plan takes no tokens", x.tokens(0), 10);
        x.pass(3);
        Expect.answer("2: nor do ticks", x.tokens(0), 10);
        x.setPlan(2, 13, 2, 0);
        Expect.answer("2: a larger plan gives no tokens", x.tokens(0), 10);
        x.pass(1);
        Expect.answer("2: the new refill", x.tokens(0), 12);
        x.pass(1);
        Expect.answer("2: at most the new size", x.tokens(0), 13);
        x.setPlan(1, 50, 9, 9);
        x.pass(1);
        Expect.answer("2: another plan changes nothing here", x.tokens(0), 13);
    }

    private static void promise3RouteDefaults() {
        for (int route = 0; route < 6; route++) {
            TollGateway x = new TollGateway();
            x.addKey(0);
            x.pay(0, 100);
            x.call(0, route, 3);
            Expect.answer("3: the price at first", x.held(0), 30);
            Expect.answer("3: the weight at first", x.tokens(0), 9);
        }
    }

    private static void promise3Route() {
        int[][] routes = {{0, 1}, {1000, 20}, {1, 20}, {1000, 1}, {7, 3}, {13, 9}};
        TollGateway x = new TollGateway();
        x.setPlan(0, 100, 0, 0);
        x.addKey(0);
        x.pay(0, 100000);
        for (int route = 0; route < 6; route++) {
            x.setRoute(route, routes[route][0], routes[route][1]);
        }
        for (int route = 0; route < 6; route++) {
            int held = x.held(0);
            int tokens = x.tokens(0);
            Expect.answer("3: let through", x.call(0, route, 4), TollGateway.LET_THROUGH);
            Expect.answer("3: the price of a route", x.held(0) - held, 4 * routes[route][0]);
            Expect.answer("3: the weight of a route", tokens - x.tokens(0), routes[route][1]);
        }
    }

    private static void promise3OpenCallsKeepTheirWorth() {
        TollGateway x = new TollGateway();
        x.addKey(0);
        x.pay(0, 100);
        x.setRoute(4, 7, 3);
        x.call(0, 4, 2);
        x.setRoute(4, 50, 9);
        Expect.answer("3: the hold stays", x.held(0), 14);
        Expect.answer("3: the cost is of the old price", x.end(0, 0), 14);
        Expect.answer("3: what goes back, too", x.dispute(0), 14);
        Expect.answer("3: and the old weight's tokens", x.tokens(0), 10);
    }

    private static void promise4AddKey() {
        TollGateway x = new TollGateway();
        x.setPlan(3, 77, 1, 0);
        for (int key = 0; key < 8; key++) {
            Expect.answer("4: its number", x.addKey(key % 4), key);
            Expect.answer("4: its plan", x.setKeyPlan(key, 0), key % 4);
            Expect.answer("4: its tokens", x.tokens(key), key % 4 == 3 ? 77 : 10);
            Expect.answer("4: its credit", x.credit(key), 0);
            Expect.answer("4: its debt", x.debt(key), 0);
            Expect.answer("4: its holds", x.held(key), 0);
            Expect.answer("4: its costs", x.spent(key), 0);
            Expect.answer("4: its payments", x.paid(key), 0);
            Expect.answer("4: it is slowed", x.isSlowed(key), true);
            Expect.answer("4: its trust line", x.setTrust(key, 0), 0);
        }
        Expect.thrown("4: a ninth key", IllegalStateException.class, () -> x.addKey(0));
        Expect.thrown("4: no key 8", IndexOutOfBoundsException.class, () -> x.credit(8));
    }

    private static void promise5SetKeyPlan() {
        TollGateway x = new TollGateway();
        x.setPlan(1, 4, 4, 1);
        x.setPlan(2, 30, 5, 2);
        x.addKey(3);
        x.addKey(3);
        Expect.answer("5: the plan before", x.setKeyPlan(0, 1), 3);
        Expect.answer("5: its tokens stay", x.tokens(0), 10);
        x.pass(1);
        Expect.answer("5: though they are more than the size", x.tokens(0), 10);
        Expect.answer("5: the plan before", x.setKeyPlan(0, 2), 1);
        Expect.answer("5: its tokens stay", x.tokens(0), 10);
        x.pass(1);
        Expect.answer("5: the slow refill of the new plan", x.tokens(0), 12);
        x.pay(0, 1);
        x.pass(1);
        Expect.answer("5: the refill of the new plan", x.tokens(0), 17);
        Expect.answer("5: the plan it is on already", x.setKeyPlan(0, 2), 2);
        Expect.answer("5: plan 0", x.setKeyPlan(0, 0), 2);
        Expect.answer("5: the other key's plan stays", x.setKeyPlan(1, 1), 3);
    }

    private static void promise6SetTrust() {
        TollGateway x = new TollGateway();
        x.addKey(1);
        x.addKey(1);
        Expect.answer("6: none at first", x.setTrust(0, 10000), 0);
        Expect.answer("6: the line before", x.setTrust(0, 40), 10000);
        Expect.answer("6: no debt yet", x.debt(0), 0);
        Expect.answer("6: the other key has none", x.call(1, 0, 1), TollGateway.NO_CREDIT);
        Expect.answer("6: within the line", x.call(0, 0, 4), TollGateway.LET_THROUGH);
        Expect.answer("6: its debt", x.debt(0), 40);
        Expect.answer("6: the line is used up", x.call(0, 0, 1), TollGateway.NO_CREDIT);
        Expect.answer("6: the line before", x.setTrust(0, 50), 40);
        Expect.answer("6: its debt stays", x.debt(0), 40);
        Expect.answer("6: a longer line", x.call(0, 0, 1), TollGateway.LET_THROUGH);
        Expect.answer("6: its debt then", x.debt(0), 50);
        Expect.answer("6: the line before", x.setTrust(0, 0), 50);
        Expect.answer("6: its debt stays", x.debt(0), 50);
        Expect.answer("6: the line before", x.setTrust(0, 1), 0);
    }

    private static void promise6LineBelowTheDebt() {
        TollGateway x = new TollGateway();
        x.addKey(0);
        x.setTrust(0, 100);
        x.call(0, 0, 9);
        x.setTrust(0, 20);
        Expect.answer("6: no trust is left", x.call(0, 0, 1), TollGateway.NO_CREDIT);
        x.setRoute(1, 0, 1);
        Expect.answer("6: what is left is at least 0", x.call(0, 1, 1), TollGateway.LET_THROUGH);
        x.pay(0, 75);
        Expect.answer("6: 5 of 20 are left", x.call(0, 0, 1), TollGateway.NO_CREDIT);
        x.pay(0, 5);
        Expect.answer("6: 10 of 20 are left", x.call(0, 0, 1), TollGateway.LET_THROUGH);
        Expect.answer("6: the debt is the line", x.debt(0), 20);
    }
}
