/** What a gateway shows of itself, as one text. */
final class Seen {
    private Seen() {
    }

    /** Asks only, so that the gateway can be used on. */
    static String of(TollGateway x, int keys) {
        StringBuilder seen = new StringBuilder();
        seen.append("now ").append(x.now()).append(" calls ").append(x.calls());
        for (int key = 0; key < keys; key++) {
            seen.append(" key").append(key)
                .append(' ').append(x.credit(key)).append(' ').append(x.debt(key))
                .append(' ').append(x.held(key)).append(' ').append(x.tokens(key))
                .append(' ').append(x.isSlowed(key)).append(' ').append(x.spent(key))
                .append(' ').append(x.paid(key));
        }
        for (int call = 0; call < x.calls(); call++) {
            seen.append(" call").append(call).append(' ').append(x.cost(call));
        }
        return seen.toString();
    }

    /** Changes the gateway to bring out what it does not tell: trust lines, plans, routes, what is in dispute. */
    static String throughAndThrough(TollGateway x, int keys) {
        StringBuilder seen = new StringBuilder(of(x, keys));
        for (int key = 0; key < keys; key++) {
            seen.append(" trust ").append(x.setTrust(key, 10000)).append(" plan ").append(x.setKeyPlan(key, 0));
        }
        for (int call = 0; call < x.calls(); call++) {
            seen.append(" back ").append(disputeOrThrow(x, call));
        }
        for (int plan = 0; plan < 4 && keys > 0; plan++) {
            x.setKeyPlan(0, plan);
            seen.append(" tokens ").append(x.tokens(0));
            x.pass(1);
            seen.append(' ').append(x.tokens(0));
            x.pass(100);
            seen.append(' ').append(x.tokens(0));
        }
        for (int route = 0; route < 6 && keys > 0; route++) {
            seen.append(" route ").append(x.call(0, route, 1)).append(' ').append(x.held(0))
                .append(' ').append(x.tokens(0));
        }
        return seen.append(" then ").append(of(x, keys)).toString();
    }

    private static String disputeOrThrow(TollGateway x, int call) {
        try {
            return "" + x.dispute(call);
        } catch (IllegalStateException e) {
            return "none";
        }
    }
}
