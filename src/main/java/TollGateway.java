import java.util.ArrayList;

/** A gateway for calls that are paid from prepaid credit; ../shared/DOC.md says what it promises. */
public final class TollGateway {
    public static final int LET_THROUGH = 0, NO_TOKENS = 1, NO_CREDIT = 2;

    private static final int PLANS = 4;
    private static final int ROUTES = 6;
    private static final int MOST_KEYS = 8;
    private static final int MOST_CALLS = 80;

    private static final int MOST_BUCKET_SIZE = 100;
    private static final int MOST_REFILL = 100;
    private static final int MOST_PRICE = 1000;
    private static final int MOST_WEIGHT = 20;
    private static final int MOST_TRUST = 10000;
    private static final int MOST_PAYMENT = 100000;
    private static final int MOST_CALL_SIZE = 9;
    private static final int MOST_TICKS = 100;

    private static final int HOLD_TICKS = 20;
    private static final int DISPUTE_TICKS = 50;

    private static final int GOOD = 0;
    private static final int BAD = 1;
    private static final int FAILED = 2;

    private static final int NOT_ENDED = -1;

    private final Plan[] plans = new Plan[PLANS];
    private final Route[] routes = new Route[ROUTES];
    private final ArrayList<Key> keys = new ArrayList<>();
    private final ArrayList<Call> letThrough = new ArrayList<>();
    private int tick;
    private int nextToRunOut;

    public TollGateway() {
        for (int i = 0; i < plans.length; i++) {
            plans[i] = new Plan(i);
        }
        for (int i = 0; i < routes.length; i++) {
            routes[i] = new Route();
        }
    }

    // ---- plans, routes, keys

    public void setPlan(int plan, int size, int refill, int slow) throws IllegalArgumentException {
        Plan changed = planAt(plan);
        refuseOutside(size, 1, MOST_BUCKET_SIZE);
        refuseOutside(refill, 0, MOST_REFILL);
        refuseOutside(slow, 0, refill);
        changed.size = size;
        changed.refill = refill;
        changed.slowRefill = slow;
    }

    public void setRoute(int route, int price, int weight) throws IllegalArgumentException {
        Route changed = routeAt(route);
        refuseOutside(price, 0, MOST_PRICE);
        refuseOutside(weight, 1, MOST_WEIGHT);
        changed.price = price;
        changed.weight = weight;
    }

    public int addKey(int plan) throws IllegalArgumentException, IllegalStateException {
        Plan first = planAt(plan);
        if (keys.size() >= MOST_KEYS) {
            throw new IllegalStateException("there are 8 keys");
        }
        keys.add(new Key(first));
        return keys.size() - 1;
    }

    public int setKeyPlan(int key, int plan) throws IndexOutOfBoundsException, IllegalArgumentException {
        Key moved = keyAt(key);
        Plan next = planAt(plan);
        int before = moved.plan.number;
        moved.plan = next;
        return before;
    }

    public int setTrust(int key, int line) throws IndexOutOfBoundsException, IllegalArgumentException {
        Key trusted = keyAt(key);
        refuseOutside(line, 0, MOST_TRUST);
        int before = trusted.trustLine;
        trusted.trustLine = line;
        return before;
    }

    public int pay(int key, int money) throws IndexOutOfBoundsException, IllegalArgumentException {
        Key payer = keyAt(key);
        refuseOutside(money, 1, MOST_PAYMENT);
        payer.paid += money;
        payer.receive(money);
        return payer.credit;
    }

    // ---- calls

    public int call(int key, int route, int size)
            throws IndexOutOfBoundsException, IllegalArgumentException, IllegalStateException {
        Key caller = keyAt(key);
        Route taken = routeAt(route);
        refuseOutside(size, 1, MOST_CALL_SIZE);
        if (letThrough.size() >= MOST_CALLS) {
            throw new IllegalStateException("80 calls were let through");
        }
        int worth = taken.price * size;
        if (caller.tokens < taken.weight) {
            return NO_TOKENS;
        }
        if (!caller.canCover(worth)) {
            return NO_CREDIT;
        }
        caller.tokens -= taken.weight;
        caller.openHold(worth);
        letThrough.add(new Call(caller, worth, taken.weight, tick + HOLD_TICKS));
        return LET_THROUGH;
    }

    public int end(int call, int outcome)
            throws IndexOutOfBoundsException, IllegalArgumentException, IllegalStateException {
        Call ending = callAt(call);
        refuseOutside(outcome, GOOD, FAILED);
        if (ending.hasEnded()) {
            throw new IllegalStateException("the call has ended");
        }
        ending.settle(outcome, tick);
        return ending.cost;
    }

    public int dispute(int call) throws IndexOutOfBoundsException, IllegalStateException {
        Call disputed = callAt(call);
        if (!disputed.hasEnded()) {
            throw new IllegalStateException("the call has not ended");
        }
        if (disputed.wasDisputed) {
            throw new IllegalStateException("the call was disputed already");
        }
        if (tick - disputed.endTick > DISPUTE_TICKS) {
            throw new IllegalStateException("the call ended more than 50 ticks ago");
        }
        return disputed.giveBack();
    }

    public int pass(int ticks) throws IllegalArgumentException {
        refuseOutside(ticks, 1, MOST_TICKS);
        int ranOut = 0;
        for (int i = 0; i < ticks; i++) {
            tick++;
            ranOut += runOutHolds();
            refillBuckets();
        }
        return ranOut;
    }

    public int now() {
        return tick;
    }

    public int calls() {
        return letThrough.size();
    }

    // ---- what there is

    public int credit(int key) throws IndexOutOfBoundsException {
        return keyAt(key).credit;
    }

    public int debt(int key) throws IndexOutOfBoundsException {
        return keyAt(key).debt;
    }

    public int held(int key) throws IndexOutOfBoundsException {
        return keyAt(key).held;
    }

    public int tokens(int key) throws IndexOutOfBoundsException {
        return keyAt(key).tokens;
    }

    public boolean isSlowed(int key) throws IndexOutOfBoundsException {
        return keyAt(key).refillsSlowly();
    }

    public int cost(int call) throws IndexOutOfBoundsException {
        return callAt(call).cost;
    }

    public int spent(int key) throws IndexOutOfBoundsException {
        return keyAt(key).spent;
    }

    public int paid(int key) throws IndexOutOfBoundsException {
        return keyAt(key).paid;
    }

    // ---- parameters

    private Plan planAt(int plan) {
        if (plan < 0 || plan >= plans.length) {
            throw new IllegalArgumentException("plan is out of range");
        }
        return plans[plan];
    }

    private Route routeAt(int route) {
        if (route < 0 || route >= routes.length) {
            throw new IllegalArgumentException("route is out of range");
        }
        return routes[route];
    }

    private Key keyAt(int key) {
        if (key < 0 || key >= keys.size()) {
            throw new IndexOutOfBoundsException("there is no such key");
        }
        return keys.get(key);
    }

    private Call callAt(int call) {
        if (call < 0 || call >= letThrough.size()) {
            throw new IndexOutOfBoundsException("there is no such call");
        }
        return letThrough.get(call);
    }

    private static void refuseOutside(int value, int least, int most) {
        if (value < least || value > most) {
            throw new IllegalArgumentException("a parameter is out of range");
        }
    }

    // ---- what a tick does

    // Every hold is open for the same time, so holds come due in the order of their calls' numbers.
    private int runOutHolds() {
        int ranOut = 0;
        while (nextToRunOut < letThrough.size() && letThrough.get(nextToRunOut).dueTick <= tick) {
            Call due = letThrough.get(nextToRunOut);
            if (!due.hasEnded()) {
                due.settle(GOOD, tick);
                ranOut++;
            }
            nextToRunOut++;
        }
        return ranOut;
    }

    private void refillBuckets() {
        for (int i = 0; i < keys.size(); i++) {
            keys.get(i).refillBucket();
        }
    }

    private static final class Plan {
        private final int number;
        private int size = 10;
        private int refill = 1;
        private int slowRefill = 0;

        private Plan(int number) {
            this.number = number;
        }
    }

    private static final class Route {
        private int price = 10;
        private int weight = 1;
    }

    private static final class Key {
        private Plan plan;
        private int tokens;
        private int trustLine;
        private int credit;
        private int debt;
        private int held;
        private int openHolds;
        private int spent;
        private int paid;

        private Key(Plan plan) {
            this.plan = plan;
            this.tokens = plan.size;
        }

        private void receive(int money) {
            int toDebt = Math.min(debt, money);
            debt -= toDebt;
            credit += money - toDebt;
        }

        // A line that was lowered below the debt leaves no trust, but it takes nothing from the credit.
        private boolean canCover(int worth) {
            int trustLeft = Math.max(0, trustLine - debt);
            return credit + trustLeft >= worth;
        }

        private void openHold(int worth) {
            int fromCredit = Math.min(credit, worth);
            credit -= fromCredit;
            debt += worth - fromCredit;
            held += worth;
            openHolds++;
        }

        private void closeHold(int worth, int cost) {
            held -= worth;
            openHolds--;
            spent += cost;
            receive(worth - cost);
        }

        // Open holds are counted and not summed up here, because a hold of 0 counts, too.
        private boolean refillsSlowly() {
            return credit == 0 && openHolds == 0;
        }

        // A dispute or a new plan can leave more tokens than the bucket's size; a tick does not take them.
        private void refillBucket() {
            if (tokens < plan.size) {
                int more = refillsSlowly() ? plan.slowRefill : plan.refill;
                tokens = Math.min(plan.size, tokens + more);
            }
        }
    }

    /** A call that was let through, at the price and weight that its route had then. */
    private static final class Call {
        private final Key key;
        private final int worth;
        private final int weight;
        private final int dueTick;
        private int cost = NOT_ENDED;
        private int endTick;
        private boolean wasDisputed;

        private Call(Key key, int worth, int weight, int dueTick) {
            this.key = key;
            this.worth = worth;
            this.weight = weight;
            this.dueTick = dueTick;
        }

        private boolean hasEnded() {
            return cost != NOT_ENDED;
        }

        private void settle(int outcome, int tick) {
            cost = costOf(outcome);
            endTick = tick;
            key.closeHold(worth, cost);
        }

        private int costOf(int outcome) {
            if (outcome == GOOD) {
                return worth;
            }
            return outcome == BAD ? (worth + 1) / 2 : 0;
        }

        private int giveBack() {
            int back = cost;
            cost = 0;
            wasDisputed = true;
            key.spent -= back;
            key.receive(back);
            key.tokens += weight;
            return back;
        }
    }
}
