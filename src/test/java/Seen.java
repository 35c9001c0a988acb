/** What a gateway shows of itself, as one text; asking changes nothing. */
final class Seen {
    private Seen() {
    }

    static String of(TollGateway x) {
        return of(x, keys(x));
    }

    static String of(TollGateway x, int keys) {
        StringBuilder seen = new StringBuilder();
        seen.append("now ").append(x.now()).append(" calls ").append(x.calls());
        for (int key = 0; key < keys; key++) {
            seen.append(" key").append(key)
                .append(' ').append(x.credit(key)).append(' ').append(x.debt(key))
                .append(' ').append(x.held(key)).append(' ').append(x.tokens(key))
                .append(' ').append(x.isSlowed(key)).append(' ').append(x.spent(key))
                .append(' ').append(x.paid(key));
        }
        int calls = x.calls();
        for (int call = 0; call < calls; call++) {
            seen.append(" call").append(call).append(' ').append(x.cost(call));
        }
        return seen.toString();
    }

    static String tokens(TollGateway x, int keys) {
        StringBuilder seen = new StringBuilder();
        for (int key = 0; key < keys; key++) {
            seen.append(x.tokens(key)).append(' ');
        }
        return seen.toString();
    }

    static int keys(TollGateway x) {
        int keys = 0;
        while (keys < 9 && hasKey(x, keys)) {
            keys++;
        }
        return keys;
    }

    private static boolean hasKey(TollGateway x, int key) {
        try {
            x.paid(key);
            return true;
        } catch (IndexOutOfBoundsException e) {
            return false;
        }
    }
}
