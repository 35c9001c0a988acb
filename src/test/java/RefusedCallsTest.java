import java.util.function.Supplier;

/**
 * What is refused though each parameter is in its range, and which exception comes first where several apply.
 * Whatever is refused changes nothing.
 */
public final class RefusedCallsTest {
    private static final Class<IllegalArgumentException> ARGUMENT = IllegalArgumentException.class;
    private static final Class<IllegalStateException> STATE = IllegalStateException.class;
    private static final Class<IndexOutOfBoundsException> INDEX = IndexOutOfBoundsException.class;

    public static void main(String[] args) {
        promise4ThereAre8();
        promise8RefusedForTokens();
        promise8RefusedForCredit();
        promise8EightyWereLetThrough();
        promise9HasEnded();
        promise10HasNotEnded();
        promise10WasDisputedAlready();
        promise10MoreThan50TicksAgo();
        promise4FirstDocumentedFirst();
        promises5To7FirstDocumentedFirst();
        promise8FirstDocumentedFirst();
        promise9FirstDocumentedFirst();
        promise10FirstDocumentedFirst();
        nothingOfANewObject();
        Expect.finish();
    }

    private static void refused(String what, Class<? extends RuntimeException> due, Unchanged.Use use) {
        Unchanged.thrown(what, due, Prepared::busy, use);
    }

    private static void promise4ThereAre8() {
        for (int keys = 0; keys < 8; keys++) {
            TollGateway x = new TollGateway();
            for (int key = 0; key < keys; key++) {
                x.addKey(key % 4);
            }
            Expect.answer("4: there are " + keys, x.addKey(3), keys);
        }
        for (int plan = 0; plan <= 3; plan++) {
            int next = plan;
            Unchanged.thrown("4: there are 8", STATE, Prepared::withAllKeys, x -> x.addKey(next));
        }
    }

    private static void promise8RefusedForTokens() {
        Supplier<TollGateway> made = () -> {
            TollGateway x = Prepared.busy();
            for (int left = x.tokens(0); left > 18; left = x.tokens(0)) {
                x.setRoute(1, 0, Math.min(20, left - 18));
                x.call(0, 1, 1);
            }
            x.setRoute(2, 0, 20);
            x.setRoute(3, 1, 19);
            x.setRoute(4, 1, 18);
            x.setRoute(5, 1000, x.tokens(1) + 1);
            return x;
        };
        Unchanged.answered("8: 18 for 20", TollGateway.NO_TOKENS, made, x -> x.call(0, 2, 1));
        Unchanged.answered("8: 18 for 19", TollGateway.NO_TOKENS, made, x -> x.call(0, 3, 9));
        Expect.answer("8: 18 for 18", made.get().call(0, 4, 1), TollGateway.LET_THROUGH);
        Unchanged.answered("8: 1 too little, no credit", TollGateway.NO_TOKENS, made, x -> x.call(1, 5, 9));
    }

    private static void promise8RefusedForCredit() {
        Supplier<TollGateway> made = () -> {
            TollGateway x = Prepared.busy();
            x.setTrust(0, 0);
            x.setRoute(4, x.credit(0) / 2 + 1, 1);
            x.setRoute(5, x.credit(0) + 1, 1);
            x.setRoute(3, 1, 1);
            x.setTrust(1, x.debt(1));
            return x;
        };
        Unchanged.answered("8: credit 1 too little", TollGateway.NO_CREDIT, made, x -> x.call(0, 5, 1));
        Unchanged.answered("8: credit for 1, size 2", TollGateway.NO_CREDIT, made, x -> x.call(0, 4, 2));
        Unchanged.answered("8: credit far too little", TollGateway.NO_CREDIT, made, x -> x.call(0, 5, 9));
        Unchanged.answered("8: neither credit nor trust", TollGateway.NO_CREDIT, made, x -> x.call(1, 3, 1));
    }

    private static void promise8EightyWereLetThrough() {
        Unchanged.thrown("8: the 81st", STATE, Prepared::withAllCalls, x -> x.call(0, 0, 1));
        Unchanged.thrown("8: the 81st of the other key", STATE, Prepared::withAllCalls, x -> x.call(2, 0, 1));
        Supplier<TollGateway> made = () -> {
            TollGateway x = Prepared.withAllCalls();
            x.pass(100);
            return x;
        };
        Unchanged.thrown("8: the 81st, no call is open", STATE, made, x -> x.call(0, 0, 1));
    }

    private static void promise9HasEnded() {
        for (int outcome = 0; outcome <= 2; outcome++) {
            int due = outcome;
            refused("9: it was disputed long ago", STATE, x -> x.end(0, due));
            refused("9: it was disputed", STATE, x -> x.end(7, due));
            refused("9: it ran out", STATE, x -> x.end(1, due));
            refused("9: it ended as good", STATE, x -> x.end(3, due));
            refused("9: it ended as bad", STATE, x -> x.end(4, due));
            refused("9: it failed", STATE, x -> x.end(5, due));
            Expect.answer("9: it is open", Prepared.busy().end(8, due), new int[] {40, 20, 0}[due]);
        }
    }

    private static void promise10HasNotEnded() {
        for (int call = 8; call < 10; call++) {
            int open = call;
            refused("10: it is open", STATE, x -> x.dispute(open));
            TollGateway x = Prepared.busy();
            x.end(call, 0);
            Expect.answer("10: it has ended", x.dispute(call), 40);
        }
    }

    private static void promise10WasDisputedAlready() {
        refused("10: it was disputed long ago", STATE, x -> x.dispute(0));
        refused("10: it was disputed", STATE, x -> x.dispute(7));
        for (int call = 2; call < 7; call++) {
            int disputed = call;
            Supplier<TollGateway> made = () -> {
                TollGateway x = Prepared.busy();
                x.dispute(disputed);
                return x;
            };
            Unchanged.thrown("10: a second time", STATE, made, x -> x.dispute(disputed));
        }
    }

    private static void promise10MoreThan50TicksAgo() {
        refused("10: it ran out 51 ticks ago", STATE, x -> x.dispute(1));
        Expect.answer("10: it ended 50 ticks ago", Prepared.busy().dispute(2), 14);
        Supplier<TollGateway> made = () -> {
            TollGateway x = Prepared.busy();
            x.pass(1);
            return x;
        };
        Unchanged.thrown("10: it ended 51 ticks ago", STATE, made, x -> x.dispute(2));
    }

    // ---- several exceptions apply

    private static void promise4FirstDocumentedFirst() {
        for (int plan : new int[] {-1, 4}) {
            Unchanged.thrown("4: no plan, there are 8", ARGUMENT, Prepared::withAllKeys, x -> x.addKey(plan));
        }
    }

    private static void promises5To7FirstDocumentedFirst() {
        for (int key : new int[] {-1, 2}) {
            for (int low : new int[] {0, 1}) {
                refused("5: no key, no plan", INDEX, x -> x.setKeyPlan(key, low == 1 ? -1 : 4));
                refused("6: no key, no line", INDEX, x -> x.setTrust(key, low == 1 ? -1 : 10001));
                refused("7: no key, no money", INDEX, x -> x.pay(key, low == 1 ? 0 : 100001));
            }
        }
    }

    private static void promise8FirstDocumentedFirst() {
        for (int key : new int[] {-1, 3}) {
            full("8: no key, 80 calls", INDEX, x -> x.call(key, 0, 1));
            full("8: no key, no route", INDEX, x -> x.call(key, 6, 1));
            full("8: no key, no size", INDEX, x -> x.call(key, 0, 0));
            refused("8: no key, no route, no size", INDEX, x -> x.call(key, -1, 10));
        }
        full("8: no route, 80 calls", ARGUMENT, x -> x.call(0, 6, 1));
        full("8: no size, 80 calls", ARGUMENT, x -> x.call(0, 0, 10));
        full("8: no route, no size, 80 calls", ARGUMENT, x -> x.call(0, -1, 0));
        refused("8: no route, no size", ARGUMENT, x -> x.call(0, 6, 0));
        Expect.answer("8: no tokens", Prepared.busy().call(1, 5, 1), TollGateway.NO_TOKENS);
        Expect.answer("8: no credit", Prepared.busy().call(1, 0, 9), TollGateway.NO_CREDIT);
        full("8: 80 calls, no tokens", STATE, x -> x.call(1, 5, 1));
        full("8: 80 calls, no credit", STATE, x -> x.call(1, 0, 9));
        refused("8: no size, no tokens", ARGUMENT, x -> x.call(1, 5, 10));
        refused("8: no size, no credit", ARGUMENT, x -> x.call(1, 0, 10));
    }

    private static void full(String what, Class<? extends RuntimeException> due, Unchanged.Use use) {
        Unchanged.thrown(what, due, Prepared::withAllCalls, use);
    }

    private static void promise9FirstDocumentedFirst() {
        for (int outcome : new int[] {-1, 3}) {
            refused("9: no call, no outcome", INDEX, x -> x.end(10, outcome));
            refused("9: no call, no outcome", INDEX, x -> x.end(-1, outcome));
            for (int call = 0; call < 8; call++) {
                int ended = call;
                refused("9: no outcome, it has ended", ARGUMENT, x -> x.end(ended, outcome));
            }
        }
    }

    private static void promise10FirstDocumentedFirst() {
        Supplier<TollGateway> made = () -> {
            TollGateway x = Prepared.busy();
            x.pass(100);
            return x;
        };
        Unchanged.thrown("10: disputed, and too long ago", STATE, made, x -> x.dispute(0));
        Unchanged.thrown("10: no call, the last one too long ago", INDEX, made, x -> x.dispute(10));
    }

    private static void nothingOfANewObject() {
        Supplier<TollGateway> made = TollGateway::new;
        Unchanged.thrown("5: no key, no plan", INDEX, made, x -> x.setKeyPlan(0, 4));
        Unchanged.thrown("6: no key, no line", INDEX, made, x -> x.setTrust(0, -1));
        Unchanged.thrown("7: no key, no money", INDEX, made, x -> x.pay(0, 0));
        Unchanged.thrown("8: no key, no route", INDEX, made, x -> x.call(0, 6, 0));
        Unchanged.thrown("9: no call, no outcome", INDEX, made, x -> x.end(0, 3));
        Unchanged.thrown("10: no call", INDEX, made, x -> x.dispute(0));
        Unchanged.thrown("19: no call", INDEX, made, x -> x.cost(0));
    }
}
