/**
 * Long runs of mixed calls, always the same ones. No money is made or lost in them, and a twin that is spared
 * the calls that throw answers alike: so they change nothing.
 */
public final class LongRunsTest {
    private static final int RUNS = 600;
    private static final int CALLS = 340;
    private static final String NONE = "throws";

    private long seed;

    private LongRunsTest(long seed) {
        this.seed = seed;
    }

    public static void main(String[] args) {
        for (int run = 0; run < RUNS; run++) {
            new LongRunsTest(run).play(run);
        }
        Expect.finish();
    }

    private int below(int bound) {
        seed = seed * 6364136223846793005L + 1442695040888963407L;
        return (int) ((seed >>> 33) % bound);
    }

    private void play(int run) {
        TollGateway x = new TollGateway();
        TollGateway spared = new TollGateway();
        int keys = 0;
        int calls = 0;
        for (int i = 0; i < CALLS; i++) {
            int kind = below(17);
            int a = below(10) - 1;
            int b = below(12) - 1;
            int c = below(11) - 1;
            if (kind == 9 || kind == 10 || kind == 16) {
                a = below(calls + 2) - 1;
            }
            String got = answer(x, kind, a, b, c);
            if (!got.equals(NONE)) {
                Expect.answer("run " + run + " call " + i + " of the twin", answer(spared, kind, a, b, c), got);
                keys += kind == 2 ? 1 : 0;
                calls += kind >= 6 && kind <= 8 && got.equals("0") ? 1 : 0;
            }
        }
        // An object is good for 512 calls, too few to ask for both.
        if (run % 2 == 0) {
            Expect.answer("run " + run + " at its end, the twin", Seen.of(spared, keys), Seen.of(x, keys));
        } else {
            checkMoney(run, x, keys);
        }
    }

    private static void checkMoney(int run, TollGateway x, int keys) {
        int costs = 0;
        int calls = x.calls();
        for (int call = 0; call < calls; call++) {
            costs += Math.max(0, x.cost(call));
        }
        int spent = 0;
        for (int key = 0; key < keys; key++) {
            int credit = x.credit(key);
            int debt = x.debt(key);
            spent += x.spent(key);
            int held = x.held(key);
            Expect.answer("run " + run + " key " + key + " money", credit + held + x.spent(key), x.paid(key) + debt);
            Expect.answer("run " + run + " key " + key + " has credit and debt", credit > 0 && debt > 0, false);
            int least = Math.min(Math.min(credit, debt), Math.min(held, x.tokens(key)));
            Expect.answer("run " + run + " key " + key + " has less than 0", least < 0, false);
        }
        Expect.answer("run " + run + " costs", spent, costs);
    }

    private static String answer(TollGateway x, int kind, int a, int b, int c) {
        try {
            return "" + use(x, kind, a, b, c);
        } catch (IndexOutOfBoundsException | IllegalArgumentException | IllegalStateException e) {
            Expect.thrownByTheGatewayItself("a call of kind " + kind, e);
            return NONE;
        }
    }

    private static int use(TollGateway x, int kind, int a, int b, int c) {
        switch (kind) {
            case 0:
                x.setPlan(a, b * 5, c, c / 2);
                return 0;
            case 1:
                x.setRoute(a, b * 7, c);
                return 0;
            case 2:
                return x.addKey(a);
            case 3:
                return x.setKeyPlan(a, b);
            case 4:
                return x.setTrust(a, b * 20);
            case 5:
                return x.pay(a, b * 9);
            case 6: case 7: case 8:
                return x.call(a, b, c);
            case 9:
                return x.end(a, b);
            case 10:
                return x.dispute(a);
            case 11:
                return x.pass(b);
            case 12:
                return x.isSlowed(a) ? 1 : 0;
            case 13:
                return x.tokens(a);
            case 14:
                return x.credit(a);
            case 15:
                return x.held(a);
            default:
                return x.cost(a);
        }
    }
}
