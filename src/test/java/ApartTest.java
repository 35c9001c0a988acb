/** Several keys, plans, routes, calls and gateways at once: each keeps its own. */
public final class ApartTest {
    private static final int KEYS = 8;
    private static final int CALLS = 80;

    public static void main(String[] args) {
        eachKeyKeepsItsOwn();
        eachBucketRefillsByItsOwnPlan();
        eachKeyIsSlowedByItsOwn();
        eachKeyIsPutOnItsOwnPlan();
        eachCallKeepsItsOwnWorth();
        eachCallIsSettledWithItsOwnKey();
        eachHoldRunsOutAtItsOwnTick();
        eachEndHasItsOwn50Ticks();
        eachGatewayKeepsItsOwn();
        Expect.finish();
    }

    private static void eachKeyKeepsItsOwn() {
        TollGateway x = new TollGateway();
        for (int key = 0; key < KEYS; key++) {
            x.addKey(key % 4);
            x.setRoute(0, 1, 1 + key);
            x.pay(key, 100 + key);
            x.setTrust(key, 1000 + key);
            x.call(key, 0, 1 + key);
        }
        for (int key = KEYS - 1; key >= 0; key--) {
            String told = " of key " + key;
            Expect.answer("credit" + told, x.credit(key), 99);
            Expect.answer("held" + told, x.held(key), 1 + key);
            Expect.answer("tokens" + told, x.tokens(key), 9 - key);
            Expect.answer("paid" + told, x.paid(key), 100 + key);
            Expect.answer("trust line" + told, x.setTrust(key, 2000 + key), 1000 + key);
            Expect.answer("plan" + told, x.setKeyPlan(key, (key + 1) % 4), key % 4);
            Expect.answer("cost of call " + key, x.end(key, 0), 1 + key);
        }
        x.setRoute(0, 50, 1);
        for (int key = 0; key < KEYS; key++) {
            String told = " of key " + key;
            x.pay(key, 1);
            x.setRoute(1, 100 + 10 * key, 1);
            Expect.answer("spent" + told, x.spent(key), 1 + key);
            Expect.answer("paid then" + told, x.paid(key), 101 + key);
            Expect.answer("trust line then" + told, x.setTrust(key, 3000), 2000 + key);
            Expect.answer("plan then" + told, x.setKeyPlan(key, 0), (key + 1) % 4);
            int tokens = x.tokens(key);
            Expect.answer("a call" + told, x.call(key, 1, 1), tokens > 0 ? 0 : 1);
            Expect.answer("debt" + told, x.debt(key), tokens > 0 ? 10 * key : 0);
        }
    }

    /** Plan p has the size 40 + p, the refill 3 + p and the slow refill 1 + p; key k is on plan k % 4. */
    private static TollGateway withEmptyBuckets() {
        TollGateway x = new TollGateway();
        for (int plan = 0; plan < 4; plan++) {
            x.setPlan(plan, 40 + plan, 3 + plan, 1 + plan);
        }
        for (int key = 0; key < KEYS; key++) {
            x.addKey(key % 4);
            x.setRoute(0, 0, 20);
            x.call(key, 0, 1);
            x.call(key, 0, 1);
            if (key % 4 > 0) {
                x.setRoute(0, 0, key % 4);
                x.call(key, 0, 1);
            }
        }
        int calls = x.calls();
        for (int call = 0; call < calls; call++) {
            x.end(call, 0);
        }
        return x;
    }

    private static void eachBucketRefillsByItsOwnPlan() {
        for (int slowed = 0; slowed <= 1; slowed++) {
            TollGateway x = withEmptyBuckets();
            for (int key = 0; key < KEYS; key++) {
                Expect.answer("an empty bucket of key " + key, x.tokens(key), 0);
                if (slowed == 0) {
                    x.pay(key, 1);
                }
            }
            for (int ticks = 1; ticks < 16; ticks++) {
                x.pass(1);
                for (int key = 0; key < KEYS; key++) {
                    int plan = key % 4;
                    int refill = slowed == 1 ? 1 + plan : 3 + plan;
                    int due = Math.min(40 + plan, ticks * refill);
                    Expect.answer("tokens of key " + key + " after " + ticks, x.tokens(key), due);
                }
            }
        }
    }

    private static void eachKeyIsSlowedByItsOwn() {
        for (int first = 0; first < 3; first++) {
            TollGateway x = withEmptyBuckets();
            for (int key = 0; key < KEYS; key++) {
                x.setPlan(key % 4, 40, 9, 2);
            }
            x.pass(10);
            x.setRoute(0, 0, 20);
            for (int key = 0; key < KEYS; key++) {
                int kind = (key + first) % 3;
                if (kind == 1) {
                    x.pay(key, 1);
                    x.call(key, 0, 1);
                    x.end(x.calls() - 1, 0);
                } else {
                    x.call(key, 0, 1);
                    if (kind == 0) {
                        x.end(x.calls() - 1, 0);
                    }
                }
            }
            x.pass(1);
            for (int key = 0; key < KEYS; key++) {
                boolean slowed = (key + first) % 3 == 0;
                Expect.answer("slowed key " + key, x.isSlowed(key), slowed);
                Expect.answer("tokens of key " + key, x.tokens(key), slowed ? 2 : 9);
            }
        }
    }

    private static void eachKeyIsPutOnItsOwnPlan() {
        TollGateway x = withEmptyBuckets();
        for (int key = 0; key < KEYS; key++) {
            x.setKeyPlan(key, 3 - key % 4);
            x.pass(1);
            for (int other = 0; other < KEYS; other++) {
                int before = 1 + other % 4;
                int then = 4 - other % 4;
                int due = other > key ? before * (key + 1) : before * other + then * (key + 1 - other);
                Expect.answer("tokens of key " + other + " behind " + key, x.tokens(other), due);
            }
        }
    }

    // ---- calls

    private static int keyOf(int call) {
        return call * 5 % KEYS;
    }

    private static int priceOf(int call) {
        return 3 + 7 * call;
    }

    private static int sizeOf(int call) {
        return 1 + call % 9;
    }

    private static int weightOf(int call) {
        return 1 + call % 10;
    }

    private static int worthOf(int call) {
        return priceOf(call) * sizeOf(call);
    }

    private static int costOf(int call, int outcome) {
        return outcome == 0 ? worthOf(call) : outcome == 1 ? worthOf(call) - worthOf(call) / 2 : 0;
    }

    /** All 80 calls, all of them open; the keys have paid what these hold and have neither credit nor tokens left. */
    private static TollGateway withCalls() {
        int[] worths = new int[KEYS];
        int[] weights = new int[KEYS];
        for (int call = 0; call < CALLS; call++) {
            worths[keyOf(call)] += worthOf(call);
            weights[keyOf(call)] += weightOf(call);
        }
        TollGateway x = new TollGateway();
        for (int key = 0; key < KEYS; key++) {
            x.setPlan(0, weights[key], 0, 0);
            x.addKey(0);
            x.pay(key, worths[key]);
        }
        for (int call = 0; call < CALLS; call++) {
            x.setRoute(call % 6, priceOf(call), weightOf(call));
            Expect.answer("call " + call, x.call(keyOf(call), call % 6, sizeOf(call)), TollGateway.LET_THROUGH);
        }
        for (int key = 0; key < KEYS; key++) {
            Expect.answer("credit of key " + key, x.credit(key), 0);
            Expect.answer("held of key " + key, x.held(key), worths[key]);
            Expect.answer("tokens of key " + key, x.tokens(key), 0);
        }
        return x;
    }

    private static void eachCallKeepsItsOwnWorth() {
        for (int first = 0; first < 3; first++) {
            TollGateway x = withCalls();
            for (int call = CALLS - 1; call >= 0; call--) {
                int outcome = (call + first) % 3;
                Expect.answer("the end of call " + call, x.end(call, outcome), costOf(call, outcome));
            }
            for (int call = 0; call < CALLS; call++) {
                int outcome = (call + first) % 3;
                Expect.answer("the cost of call " + call, x.cost(call), costOf(call, outcome));
            }
        }
    }

    private static void eachCallIsSettledWithItsOwnKey() {
        TollGateway x = withCalls();
        int[] credits = new int[KEYS];
        int[] spents = new int[KEYS];
        int[] tokens = new int[KEYS];
        for (int call = 0; call < CALLS; call++) {
            int key = keyOf(call);
            int cost = costOf(call, call % 3);
            x.end(call, call % 3);
            credits[key] += worthOf(call) - cost;
            spents[key] += cost;
            Expect.answer("credit of key " + key + " behind end " + call, x.credit(key), credits[key]);
        }
        for (int call = 1; call < CALLS; call += 3) {
            int key = keyOf(call);
            Expect.answer("what goes back of call " + call, x.dispute(call), costOf(call, 1));
            credits[key] += costOf(call, 1);
            spents[key] -= costOf(call, 1);
            tokens[key] += weightOf(call);
        }
        for (int key = 0; key < KEYS; key++) {
            Expect.answer("credit of key " + key, x.credit(key), credits[key]);
            Expect.answer("spent of key " + key, x.spent(key), spents[key]);
            Expect.answer("tokens of key " + key, x.tokens(key), tokens[key]);
            Expect.answer("held of key " + key, x.held(key), 0);
        }
    }

    private static void eachHoldRunsOutAtItsOwnTick() {
        for (int keys : new int[] {1, 2, KEYS}) {
            TollGateway x = new TollGateway();
            for (int key = 0; key < keys; key++) {
                x.addKey(0);
                x.pay(key, 1000);
            }
            for (int tick = 0; tick < 60; tick++) {
                if (tick < 40) {
                    x.setRoute(0, 1 + tick, 1);
                    x.call(tick * 3 % keys, 0, 1);
                }
                theHoldOf20TicksAgoRunsOut(x, tick);
            }
            int spent = 0;
            for (int key = 0; key < keys; key++) {
                spent += x.spent(key);
                Expect.answer("held of key " + key + " of " + keys, x.held(key), 0);
            }
            // Call c costs 1 + c; every fifth one costs nothing.
            Expect.answer("all that ran out is spent", spent, 820 - 148);
        }
    }

    /** Call c was made at tick c. Every fifth call ends just ahead of its 20th tick, so it does not run out. */
    private static void theHoldOf20TicksAgoRunsOut(TollGateway x, int tick) {
        int due = tick - 19;
        boolean isThere = due >= 0 && due < 40;
        if (isThere && due % 5 == 0) {
            x.end(due, 2);
        }
        boolean runsOut = isThere && due % 5 != 0;
        Expect.answer("what runs out at tick " + (tick + 1), x.pass(1), runsOut ? 1 : 0);
        if (runsOut) {
            Expect.answer("the cost of call " + due, x.cost(due), 1 + due);
        }
        if (due + 1 >= 0 && due + 1 < 40) {
            Expect.answer("the next call " + (due + 1) + " is open", x.cost(due + 1), -1);
        }
    }

    private static void eachEndHasItsOwn50Ticks() {
        TollGateway x = new TollGateway();
        x.setPlan(0, 100, 0, 0);
        x.addKey(0);
        x.pay(0, 300);
        for (int call = 0; call < 30; call++) {
            x.call(0, 0, 1);
        }
        // Calls 0 to 14 end at the ticks 0 to 14, the last one first; the others run out at tick 20.
        for (int tick = 0; tick < 15; tick++) {
            x.end(14 - tick, 0);
            x.pass(1);
        }
        x.pass(36);
        for (int tick = 51; tick < 65; tick++) {
            int late = 14 - (tick - 51);
            Expect.thrown("tick " + tick + ", call " + late, IllegalStateException.class, () -> x.dispute(late));
            Expect.answer("tick " + tick + ", call " + (late - 1), x.dispute(late - 1), 10);
            x.pass(1);
        }
        x.pass(5);
        for (int call = 15; call < 29; call++) {
            Expect.answer("tick 70, call " + call, x.dispute(call), 10);
        }
        x.pass(1);
        Expect.thrown("tick 71, call 29", IllegalStateException.class, () -> x.dispute(29));
    }

    // ---- gateways

    private static void eachGatewayKeepsItsOwn() {
        TollGateway x = Prepared.busy();
        String before = Seen.of(x);
        TollGateway y = Prepared.withAllCalls();
        y.pass(100);
        for (int plan = 0; plan < 4; plan++) {
            y.setPlan(plan, 1, 0, 0);
        }
        for (int route = 0; route < 6; route++) {
            y.setRoute(route, 1000, 20);
        }
        for (int key = 0; key < 3; key++) {
            y.setKeyPlan(key, 2);
            y.setTrust(key, 0);
            y.pay(key, 1000);
        }
        Expect.answer("a gateway beside another", Seen.of(x), before);
        TollGateway alone = Prepared.busy();
        for (TollGateway each : new TollGateway[] {x, alone}) {
            each.call(1, 0, 1);
            each.call(0, 3, 1);
            each.end(8, 1);
            each.dispute(2);
            each.pass(19);
            each.addKey(3);
        }
        Expect.answer("a gateway that went on beside another", Seen.of(x), Seen.of(alone));
        Expect.answer("its trust line", x.setTrust(1, 0), 90);
        Expect.answer("its plan", x.setKeyPlan(1, 0), 3);
        Expect.answer("a new one", Seen.of(new TollGateway()), "now 0 calls 0");
    }
}
