/** Promises 7 to 9 and what 13 to 16 and 19 to 21 tell of them: payments, calls and their ends. */
public final class MoneyTest {
    public static void main(String[] args) {
        promise7Pay();
        promise7PayLowersTheDebtFirst();
        promise8Tokens();
        promise8Credit();
        promise8Trust();
        promise8TokensAreLookedAtFirst();
        promise8EightyCalls();
        promise9Outcomes();
        promise9HalfIsRoundedUp();
        promise9GoesBackToTheDebtFirst();
        promise16HeldOfEachKey();
        promise20SpentOfEachKey();
        Expect.finish();
    }

    private static void promise7Pay() {
        TollGateway x = new TollGateway();
        x.addKey(0);
        x.addKey(0);
        Expect.answer("7: the least", x.pay(0, 1), 1);
        Expect.answer("7: the most", x.pay(0, 100000), 100001);
        Expect.answer("7: credit", x.credit(0), 100001);
        Expect.answer("7: paid", x.paid(0), 100001);
        Expect.answer("7: the other key's credit", x.credit(1), 0);
        Expect.answer("7: the other key's payments", x.paid(1), 0);
        for (int i = 0; i < 490; i++) {
            x.pay(1, 100000);
        }
        Expect.answer("7: many payments", x.paid(1), 49000000);
        Expect.answer("7: much credit", x.credit(1), 49000000);
    }

    private static void promise7PayLowersTheDebtFirst() {
        TollGateway x = new TollGateway();
        x.addKey(0);
        x.setTrust(0, 50);
        x.call(0, 0, 5);
        Expect.answer("7: less than the debt", x.pay(0, 20), 0);
        Expect.answer("7: debt", x.debt(0), 30);
        Expect.answer("7: as much as the debt", x.pay(0, 30), 0);
        Expect.answer("7: no debt", x.debt(0), 0);
        x.setTrust(0, 10);
        x.call(0, 0, 1);
        Expect.answer("7: more than the debt", x.pay(0, 25), 15);
        Expect.answer("7: no debt", x.debt(0), 0);
        Expect.answer("7: all payments are counted", x.paid(0), 75);
    }

    private static void promise8Tokens() {
        TollGateway x = new TollGateway();
        x.addKey(0);
        x.pay(0, 1000);
        x.setRoute(3, 10, 6);
        Expect.answer("8: 10 tokens for 6", x.call(0, 3, 1), TollGateway.LET_THROUGH);
        Expect.answer("8: they are taken", x.tokens(0), 4);
        Expect.answer("8: 4 tokens for 6", x.call(0, 3, 1), TollGateway.NO_TOKENS);
        Expect.answer("8: a refused call takes no tokens", x.tokens(0), 4);
        Expect.answer("8: nor credit", x.credit(0), 990);
        Expect.answer("8: nor a number", x.calls(), 1);
        x.setRoute(3, 10, 4);
        Expect.answer("8: 4 tokens for 4", x.call(0, 3, 9), TollGateway.LET_THROUGH);
        Expect.answer("8: none left", x.tokens(0), 0);
        Expect.answer("8: the next number", x.calls(), 2);
        Expect.answer("8: none for 1", x.call(0, 0, 1), TollGateway.NO_TOKENS);
        Expect.answer("8: the hold", x.held(0), 100);
        Expect.answer("8: the credit", x.credit(0), 900);
    }

    private static void promise8Credit() {
        TollGateway x = new TollGateway();
        x.addKey(0);
        x.setRoute(5, 7, 2);
        x.pay(0, 62);
        Expect.answer("8: 1 less than the worth", x.call(0, 5, 9), TollGateway.NO_CREDIT);
        Expect.answer("8: nothing is taken", Seen.of(x, 1), "now 0 calls 0 key0 62 0 0 10 false 0 62");
        x.pay(0, 1);
        Expect.answer("8: the worth to the last", x.call(0, 5, 9), TollGateway.LET_THROUGH);
        Expect.answer("8: all is held", Seen.of(x, 1), "now 0 calls 1 key0 0 0 63 8 false 0 63 call0 -1");
        Expect.answer("8: no credit at all", x.call(0, 5, 1), TollGateway.NO_CREDIT);
        x.setRoute(5, 0, 2);
        Expect.answer("8: a worth of 0 needs none", x.call(0, 5, 9), TollGateway.LET_THROUGH);
    }

    private static void promise8Trust() {
        TollGateway x = new TollGateway();
        x.addKey(0);
        x.setTrust(0, 25);
        x.pay(0, 4);
        Expect.answer("8: credit and trust are 29", x.call(0, 0, 3), TollGateway.NO_CREDIT);
        x.pay(0, 1);
        Expect.answer("8: credit and trust are 30", x.call(0, 0, 3), TollGateway.LET_THROUGH);
        Expect.answer("8: from the credit first", x.credit(0), 0);
        Expect.answer("8: the rest is debt", x.debt(0), 25);
        Expect.answer("8: all of it is held", x.held(0), 30);
        Expect.answer("8: no trust is left", x.call(0, 0, 1), TollGateway.NO_CREDIT);
        TollGateway y = new TollGateway();
        y.addKey(0);
        y.setTrust(0, 25);
        y.pay(0, 30);
        y.call(0, 0, 3);
        Expect.answer("8: enough credit makes no debt", y.debt(0), 0);
        y.call(0, 0, 2);
        Expect.answer("8: the debt", y.debt(0), 20);
        Expect.answer("8: 5 of the line are left", y.call(0, 0, 1), TollGateway.NO_CREDIT);
        y.setRoute(0, 5, 1);
        Expect.answer("8: they are enough for 5", y.call(0, 0, 1), TollGateway.LET_THROUGH);
    }

    private static void promise8TokensAreLookedAtFirst() {
        TollGateway x = new TollGateway();
        x.addKey(0);
        x.setRoute(0, 10, 11);
        Expect.answer("8: neither tokens nor credit", x.call(0, 0, 1), TollGateway.NO_TOKENS);
        x.setRoute(0, 10, 10);
        Expect.answer("8: tokens, but no credit", x.call(0, 0, 1), TollGateway.NO_CREDIT);
        Expect.answer("8: the tokens stay", x.tokens(0), 10);
    }

    private static void promise8EightyCalls() {
        TollGateway x = new TollGateway();
        x.setPlan(0, 100, 0, 0);
        x.setRoute(0, 0, 1);
        x.addKey(0);
        for (int call = 0; call < 80; call++) {
            Expect.answer("13: calls", x.calls(), call);
            Expect.answer("8: call " + call, x.call(0, 0, 1), TollGateway.LET_THROUGH);
        }
        Expect.answer("13: calls", x.calls(), 80);
        Expect.thrown("8: the 81st", IllegalStateException.class, () -> x.call(0, 0, 1));
        x.setRoute(0, 1000, 20);
        Expect.thrown("8: without credit", IllegalStateException.class, () -> x.call(0, 0, 1));
        x.end(79, 0);
        x.pass(20);
        Expect.thrown("8: behind their ends", IllegalStateException.class, () -> x.call(0, 0, 1));
        Expect.answer("13: ends change nothing", x.calls(), 80);
        Expect.answer("19: the last call", x.cost(79), 0);
        Expect.thrown("19: no call 80", IndexOutOfBoundsException.class, () -> x.cost(80));
    }

    private static void promise9Outcomes() {
        TollGateway x = new TollGateway();
        x.addKey(0);
        x.pay(0, 100);
        x.call(0, 0, 2);
        x.call(0, 0, 2);
        x.call(0, 0, 2);
        Expect.answer("19: an open call", x.cost(1), -1);
        Expect.answer("9: good", x.end(0, 0), 20);
        Expect.answer("9: nothing goes back", x.credit(0), 40);
        Expect.answer("9: the holds that are left", x.held(0), 40);
        Expect.answer("9: bad", x.end(1, 1), 10);
        Expect.answer("9: half goes back", x.credit(0), 50);
        Expect.answer("9: failed", x.end(2, 2), 0);
        Expect.answer("9: all goes back", x.credit(0), 70);
        Expect.answer("9: no holds", x.held(0), 0);
        Expect.answer("9: no tokens go back", x.tokens(0), 7);
        Expect.answer("20: spent", x.spent(0), 30);
        Expect.answer("19: cost of the good", x.cost(0), 20);
        Expect.answer("19: cost of the bad", x.cost(1), 10);
        Expect.answer("19: cost of the failed", x.cost(2), 0);
        for (int call = 0; call < 3; call++) {
            int ended = call;
            Expect.thrown("9: again", IllegalStateException.class, () -> x.end(ended, 0));
        }
    }

    private static void promise9HalfIsRoundedUp() {
        for (int worth = 0; worth < 10; worth++) {
            TollGateway x = new TollGateway();
            x.addKey(0);
            x.pay(0, 100);
            x.setRoute(0, worth, 1);
            x.call(0, 0, 1);
            int due = worth - worth / 2;
            Expect.answer("9: half of " + worth, x.end(0, 1), due);
            Expect.answer("9: what goes back", x.credit(0), 100 - due);
            Expect.answer("20: spent", x.spent(0), due);
        }
    }

    private static void promise9GoesBackToTheDebtFirst() {
        TollGateway x = new TollGateway();
        x.addKey(0);
        x.setTrust(0, 30);
        x.pay(0, 20);
        x.call(0, 0, 4);
        x.call(0, 0, 1);
        Expect.answer("9: the debt", x.debt(0), 30);
        x.end(0, 1);
        Expect.answer("9: it is less", x.debt(0), 10);
        Expect.answer("9: no credit yet", x.credit(0), 0);
        x.pay(0, 5);
        x.end(1, 2);
        Expect.answer("9: no debt", x.debt(0), 0);
        Expect.answer("9: the rest is credit", x.credit(0), 5);
    }

    private static void promise16HeldOfEachKey() {
        TollGateway x = new TollGateway();
        x.addKey(0);
        x.addKey(0);
        x.pay(0, 100);
        x.pay(1, 100);
        x.call(0, 0, 1);
        x.call(1, 0, 2);
        x.call(0, 0, 3);
        Expect.answer("16: of key 0", x.held(0), 40);
        Expect.answer("16: of key 1", x.held(1), 20);
        x.end(2, 2);
        Expect.answer("16: of key 0", x.held(0), 10);
        Expect.answer("16: of key 1", x.held(1), 20);
        Expect.answer("14: of key 0", x.credit(0), 90);
        Expect.answer("14: of key 1", x.credit(1), 80);
    }

    private static void promise20SpentOfEachKey() {
        TollGateway x = new TollGateway();
        x.addKey(0);
        x.addKey(0);
        x.setTrust(0, 100);
        x.pay(1, 100);
        x.call(0, 0, 1);
        x.call(1, 0, 2);
        x.call(1, 0, 3);
        Expect.answer("20: an open call costs nothing yet", x.spent(1), 0);
        x.end(0, 0);
        x.end(1, 0);
        x.end(2, 1);
        Expect.answer("20: of key 0", x.spent(0), 10);
        Expect.answer("20: of key 1", x.spent(1), 35);
        Expect.answer("15: of key 0", x.debt(0), 10);
        Expect.answer("15: of key 1", x.debt(1), 0);
        Expect.answer("10: goes back", x.dispute(1), 20);
        Expect.answer("20: without the disputed", x.spent(1), 15);
        Expect.answer("20: the other key's stays", x.spent(0), 10);
        Expect.answer("21: of key 1", x.paid(1), 100);
    }
}
