/** Every exception that the document names, the first documented one first, and that it changes nothing. */
public final class WrongInputsTest {
    private interface Use {
        void of(TollGateway x);
    }

    private static final Class<IllegalArgumentException> ARGUMENT = IllegalArgumentException.class;
    private static final Class<IllegalStateException> STATE = IllegalStateException.class;
    private static final Class<IndexOutOfBoundsException> INDEX = IndexOutOfBoundsException.class;

    private static final int FAR = Integer.MAX_VALUE;
    private static final int FAR_BELOW = Integer.MIN_VALUE;

    public static void main(String[] args) {
        promise2();
        promise3();
        promise4();
        promises5To7();
        promise8();
        promise9();
        promise10();
        promise11();
        promises14To21();
        severalAtOnce();
        Expect.finish();
    }

    /** Two keys; call 0 was disputed, call 1 ended too long ago, call 2 has ended, call 3 is open. */
    private static TollGateway prepared() {
        TollGateway x = new TollGateway();
        x.setPlan(0, 60, 5, 2);
        x.setPlan(3, 40, 3, 1);
        x.setRoute(1, 30, 2);
        x.addKey(0);
        x.addKey(3);
        x.setTrust(0, 70);
        x.pay(0, 200);
        x.call(0, 1, 1);
        x.end(0, 0);
        x.dispute(0);
        x.call(0, 1, 2);
        x.pass(71);
        x.call(0, 0, 1);
        x.end(2, 0);
        x.call(0, 1, 3);
        return x;
    }

    private static void refused(String what, Class<? extends RuntimeException> due, Use use) {
        TollGateway x = prepared();
        Expect.thrown(what, due, () -> use.of(x));
        Expect.answer(what + " changed something:",
            Seen.throughAndThrough(x, 2), Seen.throughAndThrough(prepared(), 2));
    }

    private static void promise2() {
        for (int plan : new int[] {-1, 4, FAR, FAR_BELOW}) {
            refused("2: plan " + plan, ARGUMENT, x -> x.setPlan(plan, 20, 4, 3));
        }
        for (int size : new int[] {0, -1, 101, FAR, FAR_BELOW}) {
            refused("2: size " + size, ARGUMENT, x -> x.setPlan(0, size, 4, 3));
        }
        for (int refill : new int[] {-1, 101, FAR, FAR_BELOW}) {
            refused("2: refill " + refill, ARGUMENT, x -> x.setPlan(0, 20, refill, 0));
        }
        for (int slow : new int[] {-1, 5, 100, FAR, FAR_BELOW}) {
            refused("2: slow " + slow, ARGUMENT, x -> x.setPlan(0, 20, 4, slow));
        }
        refused("2: slow is above a refill of 0", ARGUMENT, x -> x.setPlan(0, 20, 0, 1));
        refused("2: refill and slow below 0", ARGUMENT, x -> x.setPlan(0, 20, -1, -1));
    }

    private static void promise3() {
        for (int route : new int[] {-1, 6, FAR, FAR_BELOW}) {
            refused("3: route " + route, ARGUMENT, x -> x.setRoute(route, 20, 3));
        }
        for (int price : new int[] {-1, 1001, FAR, FAR_BELOW}) {
            refused("3: price " + price, ARGUMENT, x -> x.setRoute(1, price, 3));
        }
        for (int weight : new int[] {0, -1, 21, FAR, FAR_BELOW}) {
            refused("3: weight " + weight, ARGUMENT, x -> x.setRoute(1, 20, weight));
        }
    }

    private static void promise4() {
        for (int plan : new int[] {-1, 4, FAR, FAR_BELOW}) {
            refused("4: plan " + plan, ARGUMENT, x -> x.addKey(plan));
        }
        TollGateway x = prepared();
        for (int key = 2; key < 8; key++) {
            x.addKey(0);
        }
        String before = Seen.of(x, 8);
        Expect.thrown("4: a ninth key", STATE, () -> x.addKey(3));
        Expect.thrown("4: a ninth key on no plan", ARGUMENT, () -> x.addKey(4));
        Expect.answer("4: changed something:", Seen.of(x, 8), before);
        Expect.thrown("4: no key 8", INDEX, () -> x.tokens(8));
    }

    private static void promises5To7() {
        for (int key : new int[] {-1, 2, 8, FAR, FAR_BELOW}) {
            refused("5: key " + key, INDEX, x -> x.setKeyPlan(key, 1));
            refused("6: key " + key, INDEX, x -> x.setTrust(key, 1));
            refused("7: key " + key, INDEX, x -> x.pay(key, 1));
        }
        for (int plan : new int[] {-1, 4, FAR, FAR_BELOW}) {
            refused("5: plan " + plan, ARGUMENT, x -> x.setKeyPlan(1, plan));
        }
        for (int line : new int[] {-1, 10001, FAR, FAR_BELOW}) {
            refused("6: line " + line, ARGUMENT, x -> x.setTrust(0, line));
        }
        for (int money : new int[] {0, -1, 100001, FAR, FAR_BELOW}) {
            refused("7: money " + money, ARGUMENT, x -> x.pay(0, money));
        }
    }

    private static void promise8() {
        for (int key : new int[] {-1, 2, 8, FAR, FAR_BELOW}) {
            refused("8: key " + key, INDEX, x -> x.call(key, 1, 1));
        }
        for (int route : new int[] {-1, 6, FAR, FAR_BELOW}) {
            refused("8: route " + route, ARGUMENT, x -> x.call(0, route, 1));
        }
        for (int size : new int[] {0, -1, 10, FAR, FAR_BELOW}) {
            refused("8: size " + size, ARGUMENT, x -> x.call(0, 1, size));
        }
        TollGateway x = prepared();
        x.setPlan(1, 100, 0, 0);
        x.addKey(1);
        x.setRoute(0, 0, 1);
        while (x.calls() < 80) {
            x.call(2, 0, 1);
        }
        String before = Seen.of(x, 3);
        Expect.thrown("8: 80 were let through", STATE, () -> x.call(2, 0, 1));
        Expect.thrown("8: and no tokens are there", STATE, () -> x.call(1, 1, 9));
        Expect.thrown("8: and size 0", ARGUMENT, () -> x.call(2, 0, 0));
        Expect.thrown("8: and no key 3", INDEX, () -> x.call(3, 0, 1));
        Expect.answer("8: changed something:", Seen.of(x, 3), before);
    }

    private static void promise9() {
        for (int call : new int[] {-1, 4, 80, FAR, FAR_BELOW}) {
            refused("9: call " + call, INDEX, x -> x.end(call, 0));
        }
        for (int outcome : new int[] {-1, 3, FAR, FAR_BELOW}) {
            refused("9: outcome " + outcome, ARGUMENT, x -> x.end(3, outcome));
        }
        for (int outcome = 0; outcome < 3; outcome++) {
            int due = outcome;
            refused("9: it was disputed", STATE, x -> x.end(0, due));
            refused("9: it ran out", STATE, x -> x.end(1, due));
            refused("9: it has ended", STATE, x -> x.end(2, due));
        }
    }

    private static void promise10() {
        for (int call : new int[] {-1, 4, 80, FAR, FAR_BELOW}) {
            refused("10: call " + call, INDEX, x -> x.dispute(call));
        }
        refused("10: it was disputed", STATE, x -> x.dispute(0));
        refused("10: too long ago", STATE, x -> x.dispute(1));
        refused("10: it is open", STATE, x -> x.dispute(3));
    }

    private static void promise11() {
        for (int ticks : new int[] {0, -1, 101, FAR, FAR_BELOW}) {
            refused("11: ticks " + ticks, ARGUMENT, x -> x.pass(ticks));
        }
    }

    private static void promises14To21() {
        for (int key : new int[] {-1, 2, 8, FAR, FAR_BELOW}) {
            refused("14: key " + key, INDEX, x -> x.credit(key));
            refused("15: key " + key, INDEX, x -> x.debt(key));
            refused("16: key " + key, INDEX, x -> x.held(key));
            refused("17: key " + key, INDEX, x -> x.tokens(key));
            refused("18: key " + key, INDEX, x -> x.isSlowed(key));
            refused("20: key " + key, INDEX, x -> x.spent(key));
            refused("21: key " + key, INDEX, x -> x.paid(key));
        }
        for (int call : new int[] {-1, 4, 80, FAR, FAR_BELOW}) {
            refused("19: call " + call, INDEX, x -> x.cost(call));
        }
    }

    private static void severalAtOnce() {
        refused("5: no key, no plan", INDEX, x -> x.setKeyPlan(2, 4));
        refused("6: no key, no line", INDEX, x -> x.setTrust(-1, -1));
        refused("7: no key, no money", INDEX, x -> x.pay(2, 0));
        refused("8: no key, no route, no size", INDEX, x -> x.call(2, 6, 0));
        refused("9: no call, no outcome", INDEX, x -> x.end(4, 3));
        refused("9: no outcome, it has ended", ARGUMENT, x -> x.end(2, 3));
    }
}
