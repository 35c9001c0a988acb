/** Gateways in the states that tests start from; every call makes a new one, always alike. */
final class Prepared {
    private Prepared() {
    }

    /** One key on plan 0, with that credit and that trust line. */
    static TollGateway withKey(int credit, int line) {
        TollGateway x = new TollGateway();
        x.addKey(0);
        x.setTrust(0, line);
        if (credit > 0) {
            x.pay(0, credit);
        }
        return x;
    }

    /** One key with that many tokens, on a plan whose size is 20 and which never refills. */
    static TollGateway withTokens(int tokens) {
        TollGateway x = new TollGateway();
        x.setPlan(0, 20, 0, 0);
        x.addKey(0);
        if (tokens < 20) {
            x.setRoute(0, 0, 20 - tokens);
            x.call(0, 0, 1);
            x.end(0, 2);
        }
        return x;
    }

    /**
     * Two keys, no two settings alike, no bucket full, so that any change shows. Key 0 has credit and open holds;
     * key 1 is slowed and has debt, too few tokens for route 5, and too little trust for a size of 9 on route 0.
     * Call 0 was disputed long ago, call 1 ran out 51 ticks ago, call 2 ended 50 ticks ago, calls 3 to 6 ended as
     * good, bad, failed and good, call 7 has just been disputed, calls 8 and 9 are open.
     */
    static TollGateway busy() {
        TollGateway x = new TollGateway();
        x.setPlan(0, 60, 5, 2);
        x.setPlan(1, 9, 1, 0);
        x.setPlan(2, 30, 7, 6);
        x.setPlan(3, 39, 3, 1);
        for (int route = 0; route < 6; route++) {
            x.setRoute(route, 5 + 3 * route, 4 + route);
        }
        x.addKey(0);
        x.addKey(3);
        x.pay(0, 500);
        x.setTrust(0, 70);
        x.setTrust(1, 90);
        x.call(0, 1, 1);
        x.end(0, 1);
        x.dispute(0);
        x.call(0, 2, 2);
        x.pass(21);
        x.call(0, 3, 1);
        x.end(2, 0);
        x.pass(45);
        for (int call = 3; call < 7; call++) {
            x.call(1, 5, 1);
            x.end(call, call % 3);
        }
        for (int call = 7; call < 10; call++) {
            x.call(0, 5, 2);
            x.pass(call % 2 + 1);
        }
        x.end(7, 0);
        x.dispute(7);
        x.setPlan(0, 100, 5, 2);
        return x;
    }

    /** As busy, with keys 2 to 7 besides. */
    static TollGateway withAllKeys() {
        TollGateway x = busy();
        for (int key = 2; key < 8; key++) {
            x.addKey(key % 4);
        }
        return x;
    }

    /** As busy, with a key 2 besides that takes all calls up to number 79. */
    static TollGateway withAllCalls() {
        TollGateway x = busy();
        x.setPlan(1, 100, 1, 0);
        x.addKey(1);
        x.setPlan(1, 9, 1, 0);
        x.setRoute(0, 2, 1);
        x.pay(2, 200);
        for (int call = 10; call < 80; call++) {
            x.call(2, 0, 1);
        }
        x.setRoute(0, 5, 4);
        x.end(79, 1);
        return x;
    }
}
