/**
 * The range of each parameter of promises 2 to 21, on both sides: the first and the last value that it takes, with
 * what they do, and the first values outside, the smallest and the largest int, which it refuses, changing nothing.
 */
public final class RangesTest {
    private interface UseNumber {
        void of(TollGateway x, int number);
    }

    private interface AskNumber {
        int of(int number);
    }

    private static final Class<IllegalArgumentException> ARGUMENT = IllegalArgumentException.class;
    private static final Class<IndexOutOfBoundsException> INDEX = IndexOutOfBoundsException.class;

    public static void main(String[] args) {
        promise2Plan();
        promise2Size();
        promise2Refill();
        promise2Slow();
        promise3Route();
        promise3Price();
        promise3Weight();
        promise4Plan();
        promise5Plan();
        promise6Line();
        promise7Money();
        promise8Route();
        promise8Size();
        promise9Outcome();
        promise11Ticks();
        promises5To8And14To21Key();
        promises9And10And19Call();
        Expect.finish();
    }

    /** Where the answer shows the number itself. */
    private static void takes(String what, int least, int most, AskNumber ask) {
        for (int number : new int[] {least, least + 1, most - 1, most}) {
            Expect.answer(what + " " + number, ask.of(number), number);
        }
    }

    private static void refuses(String what, int least, int most, UseNumber use) {
        refuses(what, ARGUMENT, least, most, use);
    }

    private static void refuses(String what, Class<? extends RuntimeException> due, int least, int most,
            UseNumber use) {
        int[] outside = {least - 1, most + 1, Integer.MIN_VALUE, Integer.MIN_VALUE + least, Integer.MAX_VALUE};
        for (int number : outside) {
            Unchanged.thrown(what + " " + number, due, Prepared::busy, x -> use.of(x, number));
        }
    }

    // ---- plans, routes, keys

    private static void promise2Plan() {
        for (int plan = 0; plan <= 3; plan++) {
            TollGateway x = new TollGateway();
            x.setPlan(plan, 33, 4, 3);
            for (int other = 0; other <= 3; other++) {
                int key = x.addKey(other);
                Expect.answer("2: plan " + plan + ", not " + other, x.tokens(key), other == plan ? 33 : 10);
            }
        }
        refuses("2: plan", 0, 3, (x, plan) -> x.setPlan(plan, 20, 4, 3));
    }

    private static void promise2Size() {
        takes("2: size", 1, 100, size -> {
            TollGateway x = new TollGateway();
            x.setPlan(0, size, 0, 0);
            x.addKey(0);
            return x.tokens(0);
        });
        refuses("2: size", 1, 100, (x, size) -> x.setPlan(0, size, 4, 3));
    }

    private static void promise2Refill() {
        takes("2: refill", 0, 100, refill -> {
            TollGateway x = Prepared.withTokens(0);
            x.pay(0, 1);
            x.setPlan(0, 100, refill, 0);
            x.pass(1);
            return x.tokens(0);
        });
        refuses("2: refill", 0, 100, (x, refill) -> x.setPlan(0, 20, refill, 0));
        refuses("2: refill and slow", 0, 100, (x, refill) -> x.setPlan(0, 20, refill, refill));
    }

    private static void promise2Slow() {
        for (int refill : new int[] {0, 1, 2, 50, 99, 100}) {
            for (int slow : new int[] {0, refill / 2, Math.max(0, refill - 1), refill}) {
                TollGateway x = Prepared.withTokens(0);
                x.setPlan(0, 100, refill, slow);
                x.pass(1);
                Expect.answer("2: slow " + slow + " of " + refill, x.tokens(0), slow);
            }
            refuses("2: refill " + refill + ", slow", 0, refill, (x, slow) -> x.setPlan(0, 20, refill, slow));
        }
    }

    private static void promise3Route() {
        for (int route = 0; route <= 5; route++) {
            TollGateway x = Prepared.withKey(1000, 0);
            x.setRoute(route, 7, 2);
            for (int other = 0; other <= 5; other++) {
                int held = x.held(0);
                x.call(0, other, 1);
                Expect.answer("3: route " + route + ", not " + other, x.held(0) - held, other == route ? 7 : 10);
            }
        }
        refuses("3: route", 0, 5, (x, route) -> x.setRoute(route, 20, 3));
    }

    private static void promise3Price() {
        takes("3: price", 0, 1000, price -> {
            TollGateway x = Prepared.withKey(1000, 0);
            x.setRoute(0, price, 1);
            x.call(0, 0, 1);
            return x.held(0);
        });
        refuses("3: price", 0, 1000, (x, price) -> x.setRoute(1, price, 3));
    }

    private static void promise3Weight() {
        takes("3: weight", 1, 20, weight -> {
            TollGateway x = Prepared.withTokens(20);
            x.setRoute(0, 0, weight);
            x.call(0, 0, 1);
            return 20 - x.tokens(0);
        });
        refuses("3: weight", 1, 20, (x, weight) -> x.setRoute(1, 20, weight));
    }

    private static void promise4Plan() {
        takes("4: plan", 0, 3, plan -> {
            TollGateway x = new TollGateway();
            return x.setKeyPlan(x.addKey(plan), 0);
        });
        refuses("4: plan", 0, 3, (x, plan) -> x.addKey(plan));
    }

    private static void promise5Plan() {
        takes("5: plan", 0, 3, plan -> {
            TollGateway x = new TollGateway();
            x.addKey(0);
            Expect.answer("5: the plan before", x.setKeyPlan(0, plan), 0);
            return x.setKeyPlan(0, 0);
        });
        refuses("5: plan", 0, 3, (x, plan) -> x.setKeyPlan(1, plan));
    }

    private static void promise6Line() {
        takes("6: line", 0, 10000, line -> {
            TollGateway x = new TollGateway();
            x.addKey(0);
            Expect.answer("6: the line before", x.setTrust(0, line), 0);
            return x.setTrust(0, 0);
        });
        refuses("6: line", 0, 10000, (x, line) -> x.setTrust(0, line));
    }

    private static void promise7Money() {
        takes("7: money", 1, 100000, money -> {
            TollGateway x = new TollGateway();
            x.addKey(0);
            Expect.answer("7: the credit then", x.pay(0, money), money);
            return x.paid(0);
        });
        refuses("7: money", 1, 100000, (x, money) -> x.pay(0, money));
    }

    // ---- calls

    private static void promise8Route() {
        takes("8: route", 0, 5, route -> {
            TollGateway x = Prepared.withKey(1000, 0);
            x.setRoute(route, 100 + route, 1);
            Expect.answer("8: route " + route, x.call(0, route, 1), TollGateway.LET_THROUGH);
            return x.held(0) - 100;
        });
        refuses("8: route", 0, 5, (x, route) -> x.call(0, route, 1));
    }

    private static void promise8Size() {
        takes("8: size", 1, 9, size -> {
            TollGateway x = Prepared.withKey(1000, 0);
            Expect.answer("8: size " + size, x.call(0, 0, size), TollGateway.LET_THROUGH);
            return x.held(0) / 10;
        });
        refuses("8: size", 1, 9, (x, size) -> x.call(0, 1, size));
    }

    private static void promise9Outcome() {
        int[] cost = {7, 4, 0};
        for (int outcome = 0; outcome <= 2; outcome++) {
            TollGateway x = Prepared.withKey(1000, 0);
            x.setRoute(0, 7, 1);
            x.call(0, 0, 1);
            Expect.answer("9: outcome " + outcome, x.end(0, outcome), cost[outcome]);
        }
        refuses("9: outcome", 0, 2, (x, outcome) -> x.end(9, outcome));
    }

    private static void promise11Ticks() {
        takes("11: ticks", 1, 100, ticks -> {
            TollGateway x = new TollGateway();
            x.pass(ticks);
            return x.now();
        });
        refuses("11: ticks", 1, 100, (x, ticks) -> x.pass(ticks));
    }

    // ---- keys and calls by their numbers

    private static TollGateway withKeys(int keys) {
        TollGateway x = new TollGateway();
        for (int key = 0; key < keys; key++) {
            x.addKey(0);
        }
        return x;
    }

    private static void promises5To8And14To21Key() {
        keyIsOneOfThoseThere("5: setKeyPlan, key", (x, key) -> x.setKeyPlan(key, 1));
        keyIsOneOfThoseThere("6: setTrust, key", (x, key) -> x.setTrust(key, 50));
        keyIsOneOfThoseThere("7: pay, key", (x, key) -> x.pay(key, 50));
        keyIsOneOfThoseThere("8: call, key", (x, key) -> x.call(key, 0, 1));
        keyIsOneOfThoseThere("14: credit, key", (x, key) -> x.credit(key));
        keyIsOneOfThoseThere("15: debt, key", (x, key) -> x.debt(key));
        keyIsOneOfThoseThere("16: held, key", (x, key) -> x.held(key));
        keyIsOneOfThoseThere("17: tokens, key", (x, key) -> x.tokens(key));
        keyIsOneOfThoseThere("18: isSlowed, key", (x, key) -> x.isSlowed(key));
        keyIsOneOfThoseThere("20: spent, key", (x, key) -> x.spent(key));
        keyIsOneOfThoseThere("21: paid, key", (x, key) -> x.paid(key));
    }

    private static void keyIsOneOfThoseThere(String what, UseNumber use) {
        for (int keys = 0; keys <= 8; keys++) {
            TollGateway x = withKeys(keys);
            for (int key = 0; key < keys; key++) {
                use.of(x, key);
            }
            int first = keys;
            Expect.thrown(what + " " + keys, INDEX, () -> use.of(x, first));
            Expect.thrown(what + " -1 of " + keys, INDEX, () -> use.of(x, -1));
        }
        refuses(what, INDEX, 0, 1, use);
        for (int key : new int[] {-1, 8}) {
            Unchanged.thrown(what + " " + key, INDEX, Prepared::withAllKeys, x -> use.of(x, key));
        }
    }

    private static TollGateway withCalls(int calls) {
        TollGateway x = new TollGateway();
        x.setPlan(0, 80, 0, 0);
        x.addKey(0);
        x.setRoute(0, 0, 1);
        for (int call = 0; call < calls; call++) {
            x.call(0, 0, 1);
        }
        return x;
    }

    private static void promises9And10And19Call() {
        callIsOneOfThoseLetThrough("9: end, call", 19, (x, call) -> x.end(call, 0));
        callIsOneOfThoseLetThrough("10: dispute, call", 20, (x, call) -> x.dispute(call));
        callIsOneOfThoseLetThrough("19: cost, call", 20, (x, call) -> x.cost(call));
    }

    private static void callIsOneOfThoseLetThrough(String what, int ticks, UseNumber use) {
        for (int calls : new int[] {0, 1, 2, 79, 80}) {
            TollGateway x = withCalls(calls);
            x.pass(ticks);
            for (int call = 0; call < calls; call++) {
                use.of(x, call);
            }
            Expect.thrown(what + " " + calls, INDEX, () -> use.of(x, calls));
            Expect.thrown(what + " -1 of " + calls, INDEX, () -> use.of(x, -1));
        }
        refuses(what, INDEX, 0, 9, use);
        for (int call : new int[] {-1, 80}) {
            Unchanged.thrown(what + " " + call, INDEX, Prepared::withAllCalls, x -> use.of(x, call));
        }
    }
}
