import java.util.function.Supplier;

/** Looks whether a call changed something: a gateway that took it is asked as one that was spared it. */
final class Unchanged {
    interface Use {
        void of(TollGateway x);
    }

    interface Ask {
        Object of(TollGateway x);
    }

    private static final Ask[] QUESTIONS = {
        x -> "",
        Unchanged::passEachTick,
        Unchanged::endAll,
        Unchanged::takeEachRoute,
        Unchanged::trustAndPlanOfEachKey,
        x -> putAllOnPlan(x, 0),
        x -> putAllOnPlan(x, 1),
        x -> putAllOnPlan(x, 2),
        x -> putAllOnPlan(x, 3),
        Unchanged::disputeAll,
        x -> x.pass(1) + disputeAll(x),
        x -> x.pass(50) + disputeAll(x)
    };

    private Unchanged() {
    }

    static void thrown(String what, Class<? extends RuntimeException> due, Supplier<TollGateway> made, Use use) {
        TollGateway used = made.get();
        Expect.thrown(what, due, () -> use.of(used));
        after(what, made, x -> {
            use.of(x);
            return "";
        });
    }

    static void answered(String what, int due, Supplier<TollGateway> made, Ask ask) {
        Expect.answer(what, "" + ask.of(made.get()), "" + due);
        after(what, made, ask);
    }

    // A question may change what the next one is to bring out, so each has gateways of its own.
    private static void after(String what, Supplier<TollGateway> made, Ask use) {
        for (Ask question : QUESTIONS) {
            TollGateway used = made.get();
            orNone(used, use);
            TollGateway spared = made.get();
            String got = question.of(used) + Seen.of(used);
            String due = question.of(spared) + Seen.of(spared);
            if (!got.equals(due)) {
                Expect.tell(what + " changed something: " + got + ", due is " + due);
                return;
            }
        }
    }

    private static String passEachTick(TollGateway x) {
        StringBuilder seen = new StringBuilder();
        int keys = Seen.keys(x);
        for (int i = 0; i < 21; i++) {
            seen.append(x.pass(1)).append(' ').append(Seen.tokens(x, keys));
        }
        return seen.toString();
    }

    private static String endAll(TollGateway x) {
        StringBuilder seen = new StringBuilder();
        int calls = x.calls();
        for (int call = 0; call < calls; call++) {
            int ending = call;
            seen.append(orNone(x, y -> y.end(ending, 1))).append(' ');
        }
        return seen.toString();
    }

    private static String takeEachRoute(TollGateway x) {
        StringBuilder seen = new StringBuilder();
        int keys = Seen.keys(x);
        x.pass(20);
        for (int route = 0; route < 6; route++) {
            int taken = route;
            seen.append(orNone(x, y -> y.call(0, taken, 1))).append(' ');
            seen.append(orNone(x, y -> y.held(0))).append(' ').append(Seen.tokens(x, keys));
        }
        return seen.toString();
    }

    private static String trustAndPlanOfEachKey(TollGateway x) {
        StringBuilder seen = new StringBuilder();
        int keys = Seen.keys(x);
        for (int key = 0; key < keys; key++) {
            seen.append(x.setTrust(key, 0)).append(' ').append(x.setKeyPlan(key, 0)).append(' ');
        }
        return seen.toString();
    }

    private static String putAllOnPlan(TollGateway x, int plan) {
        StringBuilder seen = new StringBuilder();
        int keys = Seen.keys(x);
        for (int key = 0; key < keys; key++) {
            x.setKeyPlan(key, plan);
        }
        x.pass(1);
        seen.append(Seen.tokens(x, keys));
        x.pass(100);
        seen.append(Seen.tokens(x, keys)).append(orNone(x, y -> y.addKey(plan)));
        return seen.toString();
    }

    private static String disputeAll(TollGateway x) {
        StringBuilder seen = new StringBuilder();
        int calls = x.calls();
        for (int call = 0; call < calls; call++) {
            int disputed = call;
            seen.append(orNone(x, y -> y.dispute(disputed))).append(' ');
        }
        return seen.toString();
    }

    private static String orNone(TollGateway x, Ask ask) {
        try {
            return "" + ask.of(x);
        } catch (IndexOutOfBoundsException | IllegalArgumentException | IllegalStateException e) {
            return "none";
        }
    }
}
