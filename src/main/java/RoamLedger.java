import java.util.Arrays;

/**
 * A call switch of several carriers, with numbers that are carried over, calls that are moved or cut
 * when a link is barred, and debts that are kept minute by minute. What each call must do stands in
 * the document, as numbered promises.
 */
public final class RoamLedger {
    public static final int NONE = -1;
    public static final int RUNNING = 0, ENDED = 1, CUT = 2;

    private static final int CARRIERS = 5;
    private static final int PAIRS = CARRIERS * CARRIERS;
    private static final int MOST_NUMBERS = 20;
    private static final int MOST_HOMES = 10;
    private static final int MOST_CALLS = 60;

    private static final int FIRST_STEP = 1;
    private static final int FIRST_PRICE = 10;
    private static final int MOST_STEP = 10;
    private static final int MOST_PRICE = 1000;
    private static final int MOST_RATE = 100;
    private static final int MOST_TRUST = 100000;
    private static final int MOST_BALANCE = 1000000;
    private static final int MOST_BUNDLE = 100000;
    private static final int MOST_BALANCE_AT_ONCE = 10000;
    private static final int MOST_BUNDLE_AT_ONCE = 1000;
    private static final int MOST_MINUTES_AT_ONCE = 200;

    private final int[] steps = new int[CARRIERS];
    private final int[] prices = new int[CARRIERS];
    private final Network network = new Network();
    private final Subscriber[] subscribers = new Subscriber[MOST_NUMBERS];
    private final Talk[] talks = new Talk[MOST_CALLS];
    private final Route asked = new Route();
    private int subscriberCount;
    private int talkCount;

    public RoamLedger() {
        Arrays.fill(steps, FIRST_STEP);
        Arrays.fill(prices, FIRST_PRICE);
    }

    // ---- carriers and numbers

    public int tariff(int carrier, int step, int price)
            throws IndexOutOfBoundsException, IllegalArgumentException {
        demandCarrier(carrier);
        if (!isWithin(step, 1, MOST_STEP) || !isWithin(price, 0, MOST_PRICE)) {
            throw new IllegalArgumentException("step or price is out of its range");
        }
        int before = prices[carrier];
        steps[carrier] = step;
        prices[carrier] = price;
        return before;
    }

    public boolean link(int from, int to, int rate, int trust)
            throws IndexOutOfBoundsException, IllegalArgumentException {
        demandCarrier(from);
        demandCarrier(to);
        if (from == to || !isWithin(rate, 0, MOST_RATE) || !isWithin(trust, 0, MOST_TRUST)) {
            throw new IllegalArgumentException("both are the same, or rate or trust is out of its range");
        }
        boolean before = network.rateOf(from, to) != NONE;
        network.setLink(from, to, rate, trust);
        return before;
    }

    public int unlink(int from, int to) throws IndexOutOfBoundsException, IllegalStateException {
        demandCarrier(from);
        demandCarrier(to);
        int rate = network.rateOf(from, to);
        if (rate == NONE) {
            throw new IllegalStateException("there is no such link");
        }
        network.setLink(from, to, NONE, 0);
        return rate;
    }

    public int number(int home, int balance, int bundle)
            throws IndexOutOfBoundsException, IllegalArgumentException, IllegalStateException {
        demandCarrier(home);
        demandCredit(balance, bundle);
        int number = subscriberCount;
        if (number < 0 || number >= MOST_NUMBERS) {
            throw new IllegalStateException("all numbers are given out");
        }
        subscribers[number] = new Subscriber(home, balance, bundle);
        subscriberCount++;
        return number;
    }

    public int carryOver(int number, int carrier)
            throws IndexOutOfBoundsException, IllegalArgumentException, IllegalStateException {
        Subscriber subscriber = subscriberOf(number);
        demandCarrier(carrier);
        if (subscriber.homeAt(0) == carrier) {
            throw new IllegalArgumentException("it is its home already");
        }
        if (!subscriber.moveTo(carrier)) {
            throw new IllegalStateException("its chain is full");
        }
        return subscriber.homeCount;
    }

    public int home(int number, int back) throws IndexOutOfBoundsException {
        int carrier = subscriberOf(number).homeAt(back);
        if (carrier == NONE) {
            throw new IndexOutOfBoundsException("there are not so many homes");
        }
        return carrier;
    }

    public int topUp(int number, int balance, int bundle)
            throws IndexOutOfBoundsException, IllegalArgumentException, IllegalStateException {
        Subscriber subscriber = subscriberOf(number);
        demandCredit(balance, bundle);
        int balanceThen = subscriber.balance + balance;
        int bundleThen = subscriber.bundle + bundle;
        if (balanceThen > MOST_BALANCE || bundleThen > MOST_BUNDLE) {
            throw new IllegalStateException("its balance or its bundle would be too large");
        }
        subscriber.balance = balanceThen;
        subscriber.bundle = bundleThen;
        return balanceThen;
    }

    public int balance(int number) throws IndexOutOfBoundsException {
        return subscriberOf(number).balance;
    }

    public int bundle(int number) throws IndexOutOfBoundsException {
        return subscriberOf(number).bundle;
    }

    // ---- calls

    public int call(int caller, int called)
            throws IndexOutOfBoundsException, IllegalArgumentException, IllegalStateException {
        Subscriber from = subscriberOf(caller);
        Subscriber to = subscriberOf(called);
        if (caller == called) {
            throw new IllegalArgumentException("a number cannot call itself");
        }
        if (isTalking(from) || isTalking(to)) {
            throw new IllegalStateException("one of them has a running call");
        }
        int call = talkCount;
        if (call < 0 || call >= MOST_CALLS) {
            throw new IllegalStateException("the list of calls is full");
        }
        if (!network.findBest(from.homeAt(0), to.homeAt(0), asked)) {
            throw new IllegalStateException("there is no way");
        }
        talks[call] = newTalk(from, to, asked);
        talkCount++;
        return call;
    }

    public int hangUp(int call) throws IndexOutOfBoundsException, IllegalStateException {
        Talk talk = talkOf(call);
        if (talk.state != RUNNING) {
            throw new IllegalStateException("it is not running");
        }
        talk.state = ENDED;
        return talk.minutes;
    }

    public int pass(int minutes) throws IllegalArgumentException {
        if (!isWithin(minutes, 1, MOST_MINUTES_AT_ONCE)) {
            throw new IllegalArgumentException("minutes is out of its range");
        }
        int cuts = 0;
        for (int minute = 0; minute < minutes; minute++) {
            for (Talk talk : talks) {
                if (talk != null && talk.state == RUNNING && !runOneMinute(talk)) {
                    talk.state = CUT;
                    cuts++;
                }
            }
        }
        return cuts;
    }

    public int state(int call) throws IndexOutOfBoundsException {
        return talkOf(call).state;
    }

    public int minutes(int call) throws IndexOutOfBoundsException {
        return talkOf(call).minutes;
    }

    public int moved(int call) throws IndexOutOfBoundsException {
        return talkOf(call).moves;
    }

    public int way(int call, int place) throws IndexOutOfBoundsException {
        int carrier = talkOf(call).route.carrierAt(place);
        if (carrier == NONE) {
            throw new IndexOutOfBoundsException("its way has not so many carriers");
        }
        return carrier;
    }

    // ---- routes

    public int cost(int from, int to) throws IndexOutOfBoundsException {
        demandCarrier(from);
        demandCarrier(to);
        return network.findBest(from, to, asked) ? network.costOf(asked) : NONE;
    }

    public int best(int from, int to, int place) throws IndexOutOfBoundsException {
        demandCarrier(from);
        demandCarrier(to);
        int carrier = network.findBest(from, to, asked) ? asked.carrierAt(place) : NONE;
        if (carrier == NONE) {
            throw new IndexOutOfBoundsException("there is no way, or it has not so many carriers");
        }
        return carrier;
    }

    public boolean isBarred(int from, int to) throws IndexOutOfBoundsException {
        demandCarrier(from);
        demandCarrier(to);
        return !network.isOpen(from, to);
    }

    // ---- debts

    public long debt(int from, int to) throws IndexOutOfBoundsException {
        demandCarrier(from);
        demandCarrier(to);
        return network.debtOf(from, to);
    }

    public long charged(int from, int to) throws IndexOutOfBoundsException {
        demandCarrier(from);
        demandCarrier(to);
        int pair = pairOf(from, to);
        long sum = 0;
        for (Talk talk : talks) {
            if (talk != null) {
                sum += talk.chargeOf(pair);
            }
        }
        return sum;
    }

    public long position(int carrier) throws IndexOutOfBoundsException {
        demandCarrier(carrier);
        long sum = 0;
        for (int other = 0; other < CARRIERS; other++) {
            sum += network.debtOf(other, carrier);
        }
        return sum;
    }

    public long settle(int from, int to) throws IndexOutOfBoundsException, IllegalStateException {
        demandCarrier(from);
        demandCarrier(to);
        long owed = network.debtOf(from, to);
        if (owed <= 0) {
            throw new IllegalStateException("its debt is not above 0");
        }
        network.addDebt(from, to, -owed);
        return owed;
    }

    // ---- what the calls above share

    private static boolean isWithin(int value, int least, int most) {
        return value >= least && value <= most;
    }

    private static boolean isCarrier(int carrier) {
        return carrier >= 0 && carrier < CARRIERS;
    }

    /** The place of two carriers in the rows that hold something for each pair; NONE if one is no carrier. */
    private static int pairOf(int from, int to) {
        boolean areCarriers = from >= 0 && from < CARRIERS && to >= 0 && to < CARRIERS;
        return areCarriers ? from * CARRIERS + to : NONE;
    }

    private static void demandCarrier(int carrier) {
        if (!isCarrier(carrier)) {
            throw new IndexOutOfBoundsException("no such carrier");
        }
    }

    private static void demandCredit(int balance, int bundle) {
        if (!isWithin(balance, 0, MOST_BALANCE_AT_ONCE) || !isWithin(bundle, 0, MOST_BUNDLE_AT_ONCE)) {
            throw new IllegalArgumentException("balance or bundle is out of its range");
        }
    }

    private Subscriber subscriberOf(int number) {
        Subscriber subscriber = number >= 0 && number < MOST_NUMBERS ? subscribers[number] : null;
        if (subscriber == null) {
            throw new IndexOutOfBoundsException("no such number");
        }
        return subscriber;
    }

    private Talk talkOf(int call) {
        Talk talk = call >= 0 && call < MOST_CALLS ? talks[call] : null;
        if (talk == null) {
            throw new IndexOutOfBoundsException("no such call");
        }
        return talk;
    }

    private boolean isTalking(Subscriber subscriber) {
        for (Talk talk : talks) {
            if (talk != null && talk.state == RUNNING
                    && (talk.caller == subscriber || talk.called == subscriber)) {
                return true;
            }
        }
        return false;
    }

    /** A call over the route, with the tariff that the caller's home has now. */
    private Talk newTalk(Subscriber caller, Subscriber called, Route route) {
        int home = caller.homeAt(0);
        int step = isCarrier(home) ? steps[home] : FIRST_STEP;
        int price = isCarrier(home) ? prices[home] : FIRST_PRICE;
        Talk talk = new Talk(caller, called, step, price);
        talk.route.become(route);
        return talk;
    }

    /** Returns false, with nothing charged among carriers, if the call must be cut. */
    private boolean runOneMinute(Talk talk) {
        Route route = talk.route;
        if (!network.isOpenAlong(route)) {
            if (!network.findBest(route.carrierAt(0), route.carrierAt(route.length - 1), route)) {
                return false;
            }
            talk.moves++;
        }
        if (talk.isStepDue() && !talk.caller.pay(talk.step, talk.price)) {
            return false;
        }
        network.charge(talk);
        talk.minutes++;
        return true;
    }

    /** A number, with the homes that it has had and what its owner may still spend. */
    private static final class Subscriber {
        private final int[] chain = new int[MOST_HOMES];
        private int homeCount;
        private int balance;
        private int bundle;

        Subscriber(int home, int balance, int bundle) {
            this.chain[0] = home;
            this.homeCount = 1;
            this.balance = balance;
            this.bundle = bundle;
        }

        /** The home so many places ahead of the last one; NONE if the chain does not reach so far. */
        int homeAt(int back) {
            return back >= 0 && back < homeCount && homeCount <= MOST_HOMES ? chain[homeCount - 1 - back] : NONE;
        }

        /** Returns false, and changes nothing, if the chain is full. */
        boolean moveTo(int carrier) {
            if (homeCount < 0 || homeCount >= MOST_HOMES) {
                return false;
            }
            chain[homeCount] = carrier;
            homeCount++;
            return true;
        }

        /** Pays a step from the bundle, or else from the balance; returns false if neither has enough. */
        boolean pay(int step, int price) {
            if (bundle >= step) {
                bundle -= step;
                return true;
            }
            if (balance >= price) {
                balance -= price;
                return true;
            }
            return false;
        }
    }

    /** A row of different carriers. */
    private static final class Route {
        private final int[] carriers = new int[CARRIERS];
        private int length;

        /** NONE if the row has no such place. */
        int carrierAt(int place) {
            return place >= 0 && place < length && place < CARRIERS ? carriers[place] : NONE;
        }

        void clear() {
            length = 0;
        }

        void add(int carrier) {
            if (length >= 0 && length < CARRIERS) {
                carriers[length] = carrier;
                length++;
            }
        }

        void become(Route other) {
            clear();
            for (int place = 0; place < other.length; place++) {
                add(other.carrierAt(place));
            }
        }
    }

    /** A call of the list of calls, with what it has charged for each pair of carriers. */
    private static final class Talk {
        private final Subscriber caller;
        private final Subscriber called;
        private final int step;
        private final int price;
        private final Route route = new Route();
        private final long[] charges = new long[PAIRS];
        private int state = RUNNING;
        private int minutes;
        private int moves;

        Talk(Subscriber caller, Subscriber called, int step, int price) {
            this.caller = caller;
            this.called = called;
            this.step = step;
            this.price = price;
        }

        boolean isStepDue() {
            return step > 0 && minutes % step == 0;
        }

        void addCharge(int pair, int rate) {
            if (pair >= 0 && pair < PAIRS) {
                charges[pair] += rate;
            }
        }

        long chargeOf(int pair) {
            return pair >= 0 && pair < PAIRS ? charges[pair] : 0;
        }
    }

    /** The links among the carriers, the best ways over them, and the debts. */
    private static final class Network {
        // A link weighs its rate times this, and 1: so the lighter of two ways is the one with the lower
        // cost, and of two with one cost the one with fewer links, of which a way has four at most.
        private static final int WEIGHT_OF_RATE = 8;
        private static final int NO_WAY = 1000000;

        private final int[] rates = new int[PAIRS];
        private final int[] trusts = new int[PAIRS];
        private final long[] debts = new long[PAIRS];
        private final int[] weights = new int[CARRIERS];

        Network() {
            Arrays.fill(rates, NONE);
        }

        /** The rate of a link; NONE if there is no link. */
        int rateOf(int from, int to) {
            int pair = pairOf(from, to);
            return pair >= 0 && pair < PAIRS ? rates[pair] : NONE;
        }

        /** The rate NONE takes the link away. */
        void setLink(int from, int to, int rate, int trust) {
            int pair = pairOf(from, to);
            if (pair >= 0 && pair < PAIRS) {
                rates[pair] = rate;
                trusts[pair] = trust;
            }
        }

        long debtOf(int from, int to) {
            int pair = pairOf(from, to);
            return pair >= 0 && pair < PAIRS ? debts[pair] : 0;
        }

        void addDebt(int from, int to, long more) {
            int pair = pairOf(from, to);
            int turned = pairOf(to, from);
            if (pair >= 0 && pair < PAIRS && turned >= 0 && turned < PAIRS) {
                debts[pair] += more;
                debts[turned] -= more;
            }
        }

        /** Tells whether there is a link that is not barred. */
        boolean isOpen(int from, int to) {
            int pair = pairOf(from, to);
            return pair >= 0 && pair < PAIRS
                    && rates[pair] != NONE && debts[pair] + rates[pair] <= trusts[pair];
        }

        boolean isOpenAlong(Route route) {
            for (int place = 1; place < route.length; place++) {
                if (!isOpen(route.carrierAt(place - 1), route.carrierAt(place))) {
                    return false;
                }
            }
            return true;
        }

        int costOf(Route route) {
            int cost = 0;
            for (int place = 1; place < route.length; place++) {
                cost += rateOf(route.carrierAt(place - 1), route.carrierAt(place));
            }
            return cost;
        }

        void charge(Talk talk) {
            for (int place = 1; place < talk.route.length; place++) {
                int from = talk.route.carrierAt(place - 1);
                int to = talk.route.carrierAt(place);
                int rate = rateOf(from, to);
                addDebt(from, to, rate);
                talk.addCharge(pairOf(from, to), rate);
            }
        }

        /** Puts the best way into the route; returns false, and leaves the route as it is, if there is none. */
        boolean findBest(int from, int to, Route route) {
            if (!isCarrier(from) || !isCarrier(to)) {
                return false;
            }
            weighWaysTo(to);
            if (weights[from] >= NO_WAY) {
                return false;
            }
            route.clear();
            route.add(from);
            int last = from;
            for (int links = 1; links < CARRIERS && last != to; links++) {
                last = nextOnBest(last);
                route.add(last);
            }
            return true;
        }

        /** Finds the least weight of the ways from each carrier to this one; no way has more than four links. */
        private void weighWaysTo(int to) {
            Arrays.fill(weights, NO_WAY);
            if (isCarrier(to)) {
                weights[to] = 0;
            }
            for (int links = 1; links < CARRIERS; links++) {
                for (int from = 0; from < CARRIERS; from++) {
                    for (int next = 0; next < CARRIERS; next++) {
                        if (isOpen(from, next)) {
                            weights[from] = Math.min(weights[from], weightOver(from, next));
                        }
                    }
                }
            }
        }

        /** The lowest carrier that a lightest way from this one goes on to. */
        private int nextOnBest(int from) {
            for (int next = 0; next < CARRIERS; next++) {
                if (isOpen(from, next) && isCarrier(from) && weightOver(from, next) == weights[from]) {
                    return next;
                }
            }
            return NONE;
        }

        private int weightOver(int from, int next) {
            int weight = isCarrier(next) ? weights[next] : NO_WAY;
            return weight + rateOf(from, next) * WEIGHT_OF_RATE + 1;
        }
    }
}
