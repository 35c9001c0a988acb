/** The boundaries that "Terms" names for time, keys, plans, routes, buckets and slowed keys, on both sides. */
public final class KeyBoundsTest {
    public static void main(String[] args) {
        timeIsToldFrom0();
        timePassesByPassAlone();
        keysAreNumberedFrom0AndThereAreAtMost8();
        aPlanIs10And1And0AtFirst();
        aRouteIs10And1AtFirst();
        aKeyHasNeitherCreditNorTrustNorDebtAtFirst();
        aBucketIsFullAtFirst();
        tokensBecomeMoreByTheRefill();
        tokensBecomeMoreByTheSlowRefill();
        tokensBecomeAtMostTheSize();
        tokensThatWereMoreStay();
        tokensThatWereMoreStayOnAnotherPlan();
        aSizeChangesNoBucketAtOnce();
        slowedWithACreditOf0();
        slowedByTheLastOfTheCredit();
        slowedWithoutAHold();
        slowedWithoutAHoldOf0();
        slowedFromThe20thTickOn();
        slowedAheadOfTheRefillOfThe20thTick();
        goodFor512Calls();
        Expect.finish();
    }

    // ---- time

    private static void timeIsToldFrom0() {
        TollGateway x = new TollGateway();
        Expect.answer("a new object's tick", x.now(), 0);
        x.pass(1);
        Expect.answer("the tick behind it", x.now(), 1);
        x.pass(100);
        Expect.answer("100 ticks behind it", x.now(), 101);
    }

    private static void timePassesByPassAlone() {
        TollGateway x = new TollGateway();
        x.setPlan(0, 20, 2, 1);
        x.setRoute(0, 5, 2);
        x.addKey(0);
        x.setKeyPlan(0, 1);
        x.setTrust(0, 10);
        x.pay(0, 100);
        x.call(0, 0, 1);
        x.call(0, 0, 9);
        x.end(0, 0);
        x.dispute(0);
        Seen.of(x);
        Expect.answer("no call but pass moves the tick", x.now(), 0);
    }

    // ---- keys, plans, routes at first

    private static void keysAreNumberedFrom0AndThereAreAtMost8() {
        TollGateway x = new TollGateway();
        Expect.thrown("no key 0 yet", IndexOutOfBoundsException.class, () -> x.tokens(0));
        for (int key = 0; key < 8; key++) {
            Expect.answer("the number of a key", x.addKey(0), key);
            Expect.answer("its tokens", x.tokens(key), 10);
        }
        Expect.thrown("a ninth key", IllegalStateException.class, () -> x.addKey(0));
        Expect.thrown("no key 8", IndexOutOfBoundsException.class, () -> x.tokens(8));
        Expect.answer("key 7 is there", x.tokens(7), 10);
    }

    private static void aPlanIs10And1And0AtFirst() {
        for (int plan = 0; plan <= 3; plan++) {
            TollGateway x = new TollGateway();
            x.addKey(plan);
            Expect.answer("the size of a plan at first", x.tokens(0), 10);
            x.setRoute(0, 0, 2);
            x.call(0, 0, 1);
            x.end(0, 0);
            x.pass(1);
            Expect.answer("its slow refill at first", x.tokens(0), 8);
            x.pay(0, 1);
            x.pass(1);
            Expect.answer("its refill at first", x.tokens(0), 9);
            x.pass(2);
            Expect.answer("its size at first", x.tokens(0), 10);
        }
    }

    private static void aRouteIs10And1AtFirst() {
        for (int route = 0; route <= 5; route++) {
            TollGateway x = Prepared.withKey(9, 0);
            Expect.answer("credit 9 for the price at first", x.call(0, route, 1), TollGateway.NO_CREDIT);
            x.pay(0, 1);
            Expect.answer("credit 10 for the price at first", x.call(0, route, 1), TollGateway.LET_THROUGH);
            Expect.answer("the weight at first", x.tokens(0), 9);
        }
    }

    private static void aKeyHasNeitherCreditNorTrustNorDebtAtFirst() {
        TollGateway x = new TollGateway();
        x.addKey(0);
        Expect.answer("all of it", Seen.of(x), "now 0 calls 0 key0 0 0 0 10 true 0 0");
        x.setRoute(0, 1, 1);
        Expect.answer("a worth of 1", x.call(0, 0, 1), TollGateway.NO_CREDIT);
        Expect.answer("the trust line at first", x.setTrust(0, 1), 0);
        Expect.answer("a worth of 1 on a line of 1", x.call(0, 0, 1), TollGateway.LET_THROUGH);
    }

    private static void aBucketIsFullAtFirst() {
        for (int size = 1; size <= 100; size++) {
            TollGateway x = new TollGateway();
            x.addKey(2);
            x.setPlan(2, size, 0, 0);
            x.addKey(2);
            Expect.answer("made behind the plan's change", x.tokens(1), size);
            Expect.answer("made ahead of it", x.tokens(0), 10);
        }
    }

    // ---- buckets

    private static void tokensBecomeMoreByTheRefill() {
        for (int refill : new int[] {0, 1, 50, 99, 100}) {
            TollGateway x = Prepared.withTokens(0);
            x.setPlan(0, 100, refill, 0);
            x.pay(0, 1);
            x.pass(1);
            Expect.answer("by a refill of " + refill, x.tokens(0), refill);
            x.pass(1);
            Expect.answer("twice", x.tokens(0), Math.min(100, 2 * refill));
        }
    }

    private static void tokensBecomeMoreByTheSlowRefill() {
        for (int slow : new int[] {0, 1, 50, 99, 100}) {
            TollGateway x = Prepared.withTokens(0);
            x.setPlan(0, 100, 100, slow);
            x.pass(1);
            Expect.answer("by a slow refill of " + slow, x.tokens(0), slow);
            x.pass(1);
            Expect.answer("twice", x.tokens(0), Math.min(100, 2 * slow));
        }
    }

    private static void tokensBecomeAtMostTheSize() {
        for (int tokens = 0; tokens <= 20; tokens++) {
            TollGateway slowed = Prepared.withTokens(tokens);
            slowed.setPlan(0, 20, 6, 5);
            slowed.pass(1);
            Expect.answer("5 more than " + tokens + " of 20", slowed.tokens(0), tokens < 15 ? tokens + 5 : 20);
            TollGateway x = Prepared.withTokens(tokens);
            x.setPlan(0, 20, 6, 5);
            x.pay(0, 1);
            x.pass(1);
            Expect.answer("6 more than " + tokens + " of 20", x.tokens(0), tokens < 14 ? tokens + 6 : 20);
        }
    }

    private static void tokensThatWereMoreStay() {
        int[] sizes = {1, 9, 10, 11, 12, 13, 14, 100};
        int[] due = {10, 10, 10, 11, 12, 13, 13, 13};
        for (int i = 0; i < sizes.length; i++) {
            TollGateway x = Prepared.withKey(1, 0);
            x.setPlan(0, sizes[i], 3, 0);
            x.pass(1);
            Expect.answer("10 tokens and a size of " + sizes[i], x.tokens(0), due[i]);
        }
    }

    private static void tokensThatWereMoreStayOnAnotherPlan() {
        int[] sizes = {9, 10, 11};
        for (int size : sizes) {
            TollGateway x = Prepared.withKey(1, 0);
            x.setPlan(1, size, 100, 0);
            x.setKeyPlan(0, 1);
            Expect.answer("they stay at once", x.tokens(0), 10);
            x.pass(100);
            Expect.answer("10 tokens on a plan of " + size, x.tokens(0), Math.max(10, size));
            x.setRoute(0, 0, 2);
            x.call(0, 0, 1);
            x.pass(1);
            Expect.answer("and refill to its size", x.tokens(0), size);
        }
    }

    private static void aSizeChangesNoBucketAtOnce() {
        for (int size : new int[] {1, 9, 11, 100}) {
            TollGateway x = Prepared.withKey(1, 0);
            x.setPlan(0, size, 100, 100);
            Expect.answer("buckets keep their tokens", x.tokens(0), 10);
        }
    }

    // ---- slowed keys

    private static void slowedWithACreditOf0() {
        TollGateway x = new TollGateway();
        x.addKey(0);
        Expect.answer("a credit of 0", x.isSlowed(0), true);
        x.setTrust(0, 10000);
        Expect.answer("a trust line is no credit", x.isSlowed(0), true);
        x.pay(0, 1);
        Expect.answer("a credit of 1", x.isSlowed(0), false);
    }

    private static void slowedByTheLastOfTheCredit() {
        int[] worths = {9, 10};
        for (int worth : worths) {
            TollGateway x = Prepared.withKey(10, 0);
            x.setRoute(0, worth, 1);
            x.call(0, 0, 1);
            Expect.answer("a hold of " + worth + " of 10 is open", x.isSlowed(0), false);
            x.end(0, 0);
            Expect.answer("it cost " + worth + " of 10", x.isSlowed(0), worth == 10);
        }
        boolean[] due = {true, true, false};
        for (int outcome = 0; outcome <= 2; outcome++) {
            TollGateway x = Prepared.withKey(1, 0);
            x.setRoute(0, 1, 1);
            x.call(0, 0, 1);
            x.end(0, outcome);
            Expect.answer("a worth of 1 with outcome " + outcome, x.isSlowed(0), due[outcome]);
        }
    }

    private static void slowedWithoutAHold() {
        TollGateway x = Prepared.withKey(10, 10);
        x.addKey(0);
        x.call(0, 0, 1);
        x.call(0, 0, 1);
        Expect.answer("two holds are open", x.isSlowed(0), false);
        x.end(0, 0);
        Expect.answer("one hold is open", x.isSlowed(0), false);
        x.end(1, 0);
        Expect.answer("no hold is open", x.isSlowed(0), true);
        x.setTrust(1, 10);
        x.call(1, 0, 1);
        Expect.answer("another key's hold", x.isSlowed(0), true);
    }

    private static void slowedWithoutAHoldOf0() {
        TollGateway x = Prepared.withKey(0, 0);
        x.setPlan(0, 30, 4, 1);
        x.setRoute(0, 0, 3);
        x.call(0, 0, 9);
        x.call(0, 0, 1);
        Expect.answer("holds of 0 sum up to 0", x.held(0), 0);
        Expect.answer("two holds of 0 are open", x.isSlowed(0), false);
        x.pass(1);
        Expect.answer("the refill", x.tokens(0), 8);
        x.end(1, 2);
        Expect.answer("one hold of 0 is open", x.isSlowed(0), false);
        x.pass(1);
        Expect.answer("the refill", x.tokens(0), 12);
        x.end(0, 1);
        Expect.answer("no hold of 0 is open", x.isSlowed(0), true);
        x.pass(1);
        Expect.answer("the slow refill", x.tokens(0), 13);
    }

    private static void slowedFromThe20thTickOn() {
        for (int price : new int[] {0, 10}) {
            TollGateway x = Prepared.withKey(0, 10);
            x.setRoute(0, price, 1);
            x.call(0, 0, 1);
            x.pass(19);
            Expect.answer("open for 19 ticks", x.isSlowed(0), false);
            x.pass(1);
            Expect.answer("open for 20 ticks", x.isSlowed(0), true);
        }
    }

    private static void slowedAheadOfTheRefillOfThe20thTick() {
        for (int price : new int[] {0, 10}) {
            TollGateway x = Prepared.withTokens(20);
            x.setPlan(0, 100, 3, 1);
            x.setTrust(0, 10);
            x.setRoute(0, price, 20);
            x.call(0, 0, 1);
            x.pass(19);
            Expect.answer("19 refills", x.tokens(0), 57);
            x.pass(1);
            Expect.answer("a slow one at the 20th tick", x.tokens(0), 58);
            x.pass(1);
            Expect.answer("and behind it", x.tokens(0), 59);
        }
    }

    // ---- an object

    private static void goodFor512Calls() {
        TollGateway x = new TollGateway();
        for (int call = 1; call < 512; call++) {
            x.pass(100);
        }
        Expect.answer("now, the 512th call", x.now(), 51100);
        TollGateway y = new TollGateway();
        y.addKey(0);
        for (int call = 2; call < 512; call++) {
            y.pay(0, 100000);
        }
        Expect.answer("pay, the 512th call", y.pay(0, 100000), 51100000);
    }
}
