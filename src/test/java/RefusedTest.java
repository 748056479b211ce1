/**
 * A call that throws changes nothing: each refusal of each promise is told to an empty switch, to one at work, to
 * a full one and to one with balances near their most. What cannot be asked for (tariffs, trusts, steps begun) is
 * shown by the minutes and calls that follow.
 */
public final class RefusedTest {
    private static final int LOW = Integer.MIN_VALUE;
    private static final int HIGH = Integer.MAX_VALUE;
    private static final int[] NO_CARRIERS = {LOW, -1, 5, HIGH};

    public static void main(String[] args) {
        switchAtWork();
        fullSwitch();
        richSwitch();
        for (Place place : Place.values()) {
            promise02Tariff(place);
            promise03LinkOfNoCarrier(place);
            promise03LinkOutOfRange(place);
            promise04Unlink(place);
            promise05Number(place);
            promise06CarryOver(place);
            promise07Home(place);
            promise08TopUp(place);
            promise09BalanceAnd10Bundle(place);
            promise11Call(place);
            promise12HangUp(place);
            promise13Pass(place);
            promise14StateTo17Way(place);
            promise18CostTo23Position(place);
            promise24Settle(place);
        }
        promise05NumberOfAFullSwitch();
        promise06CarryOverOfAFullChain();
        promise07HomeThatIsNot();
        promise08TopUpBeyondTheMost();
        promise11CallAtWork();
        promise11CallOfAFullSwitch();
        promise12HangUpNotRunning();
        promise17WayThatIsNot();
        promise19BestThatIsNot();
        promise24SettleAtWork();
        questionsChangeNothing();
        Check.end();
    }

    /** The switches that a refused call is told to, with so many numbers and calls. */
    private enum Place {
        EMPTY(0, 0),
        AT_WORK(9, 4),
        FULL(20, 60),
        RICH(2, 1);

        private final int numbers;
        private final int calls;

        Place(int numbers, int calls) {
            this.numbers = numbers;
            this.calls = calls;
        }

        RoamLedger made() {
            RoamLedger x = new RoamLedger();
            tell(x);
            return x;
        }

        void tell(RoamLedger x) {
            switch (this) {
                case AT_WORK -> work(x);
                case FULL -> fill(x);
                case RICH -> enrich(x);
                default -> { }
            }
        }

        void refuses(String what, Class<? extends RuntimeException> due, Twins.Told call) {
            Twins.refuses(this + ", " + what, due, this::tell, call,
                    RefusedTest::passMinutes, RefusedTest::beginAnew);
        }
    }

    /** A link at its trust and one barred by 1; call 0 runs, 1 is ended, 2 is cut, and 3 runs and was moved. */
    private static void work(RoamLedger x) {
        x.tariff(0, 3, 20);
        x.tariff(1, 1, 5);
        x.tariff(2, 7, 1000);
        for (int number = 0; number < 9; number++) {
            x.number(number % 5, 300 + number, 4 * number);
        }
        x.carryOver(6, 3);
        x.carryOver(6, 2);
        x.link(0, 1, 10, 1000);
        x.link(1, 2, 5, 1000);
        x.link(1, 0, 4, 1000);
        x.link(2, 3, 1, 1000);
        x.link(3, 4, 6, 12);
        x.link(3, 0, 1, 1000);
        x.link(0, 4, 6, 1000);
        x.call(0, 1);
        x.call(5, 7);
        x.call(2, 8);
        x.call(3, 4);
        x.pass(2);
        x.hangUp(1);
        x.pass(6);
        x.settle(2, 3);
        x.link(0, 1, 10, 110);
        x.link(1, 2, 5, 14);
        x.tariff(0, 2, 15);
    }

    private static void switchAtWork() {
        RoamLedger x = Place.AT_WORK.made();
        int[] states = {RoamLedger.RUNNING, RoamLedger.ENDED, RoamLedger.CUT, RoamLedger.RUNNING};
        int[] minutes = {8, 2, 7, 8};
        int[] moves = {0, 0, 0, 1};
        for (int call = 0; call < 4; call++) {
            Check.equal("state of " + call, states[call], x.state(call));
            Check.equal("minutes of " + call, minutes[call], x.minutes(call));
            Check.equal("moves of " + call, moves[call], x.moved(call));
        }
        Check.equal("a debt of 100 with the rate 10 and the trust 110", 100, x.debt(0, 1));
        Check.no("barred at its trust", x.isBarred(0, 1));
        Check.equal("a debt of 10 with the rate 5 and the trust 14", 10, x.debt(1, 2));
        Check.yes("barred one above its trust", x.isBarred(1, 2));
        Check.equal("a debt that is paid", 0, x.debt(2, 3));
        Check.equal("a debt below 0", -12, x.debt(4, 3));
        Check.equal("the way of a call that was moved", 0, x.way(3, 1));
    }

    /** 20 numbers, number 19 with ten homes; 60 calls, of which the last three run, one over a link at its trust. */
    private static void fill(RoamLedger x) {
        x.link(0, 1, 3, 100);
        x.link(1, 2, 2, 100);
        for (int number = 0; number < 20; number++) {
            x.number(number % 5, 10000, 1000);
        }
        for (int homes = 2; homes <= 10; homes++) {
            x.carryOver(19, (3 + homes) % 5);
        }
        for (int call = 0; call < 57; call++) {
            x.call(call % 5, call % 5 + 5);
            x.hangUp(call);
        }
        x.call(0, 1);
        x.call(2, 7);
        x.call(8, 3);
        x.pass(2);
        x.link(0, 1, 3, 9);
    }

    private static void fullSwitch() {
        RoamLedger x = Place.FULL.made();
        Check.equal("balance of the 20th number", 10000, x.balance(19));
        Check.equal("its first home", 4, x.home(19, 9));
        Check.equal("its last home", 3, x.home(19, 0));
        Check.equal("state of the 57th call", RoamLedger.ENDED, x.state(56));
        for (int call = 57; call < 60; call++) {
            Check.equal("state of call " + call, RoamLedger.RUNNING, x.state(call));
        }
        Check.equal("debt", 6, x.debt(0, 1));
        Check.no("barred at its trust", x.isBarred(0, 1));
    }

    /** Number 0 has room for a balance of 1 more, number 1 for a bundle of 1 more; they talk. */
    private static void enrich(RoamLedger x) {
        x.number(0, 9999, 5);
        x.number(0, 5, 999);
        for (int times = 1; times <= 99; times++) {
            x.topUp(0, 10000, 0);
            x.topUp(1, 0, 1000);
        }
        x.call(0, 1);
    }

    private static void richSwitch() {
        RoamLedger x = Place.RICH.made();
        Check.equal("balance", 999999, x.balance(0));
        Check.equal("bundle", 99999, x.bundle(1));
        Check.equal("state", RoamLedger.RUNNING, x.state(0));
    }

    private static String passMinutes(RoamLedger x) {
        return x.pass(1) + " " + x.pass(30);
    }

    /** Ends all calls, pays all debts, has a call of new numbers within each carrier, and takes all links away. */
    private static String beginAnew(RoamLedger x) {
        StringBuilder heard = new StringBuilder();
        for (int call = 0; call < 60; call++) {
            int one = call;
            hear(heard, x, y -> y.hangUp(one));
        }
        for (int carrier = 0; carrier < 5; carrier++) {
            int home = carrier;
            int caller = hear(heard, x, y -> y.number(home, 5000, 0));
            int called = hear(heard, x, y -> y.number(home, 0, 0));
            hear(heard, x, y -> y.call(caller, called));
        }
        hear(heard, x, y -> y.pass(1));
        hear(heard, x, y -> y.pass(10));
        for (int from = 0; from < 5; from++) {
            int one = from;
            hear(heard, x, y -> y.tariff(one, 1, 1));
            for (int to = 0; to < 5; to++) {
                int another = to;
                if (from != to) {
                    hear(heard, x, y -> y.settle(one, another));
                    hear(heard, x, y -> y.unlink(one, another));
                }
            }
        }
        return heard.toString();
    }

    /** Returns the answer, if it is a number, and -1 if an exception is thrown; writes it down in either case. */
    private static int hear(StringBuilder heard, RoamLedger x, Twins.Asked call) {
        String answer = Twins.answer(call, x);
        heard.append(answer).append(' ');
        return answer.startsWith("java") ? -1 : Integer.parseInt(answer);
    }

    private static int[] beyond(int count) {
        return new int[] {LOW, -1, count, HIGH};
    }

    private static void promise02Tariff(Place place) {
        for (int none : NO_CARRIERS) {
            place.refuses("tariff of carrier " + none, Check.INDEX, x -> x.tariff(none, 5, 77));
        }
        for (int carrier = 0; carrier < 5; carrier += 4) {
            int one = carrier;
            for (int step : new int[] {LOW, -1, 0, 11, HIGH}) {
                place.refuses("tariff with step " + step, Check.ARGUMENT, x -> x.tariff(one, step, 77));
            }
            for (int price : new int[] {LOW, -1, 1001, HIGH}) {
                place.refuses("tariff with price " + price, Check.ARGUMENT, x -> x.tariff(one, 5, price));
            }
        }
    }

    private static void promise03LinkOfNoCarrier(Place place) {
        for (int none : NO_CARRIERS) {
            place.refuses("link from " + none, Check.INDEX, x -> x.link(none, 0, 1, 50));
            place.refuses("link to " + none, Check.INDEX, x -> x.link(0, none, 1, 50));
        }
        place.refuses("link of 0 to itself", Check.ARGUMENT, x -> x.link(0, 0, 1, 50));
        place.refuses("link of 4 to itself", Check.ARGUMENT, x -> x.link(4, 4, 0, 0));
    }

    /** From 0 to 1 and from 1 to 2 there are links at work, from 2 to 0 there is none. */
    private static void promise03LinkOutOfRange(Place place) {
        for (int from = 0; from < 3; from++) {
            int one = from;
            int another = (from + 1) % 3;
            for (int rate : new int[] {LOW, -1, 101, HIGH}) {
                place.refuses("link with rate " + rate, Check.ARGUMENT, x -> x.link(one, another, rate, 100000));
            }
            for (int trust : new int[] {LOW, -1, 100001, HIGH}) {
                place.refuses("link with trust " + trust, Check.ARGUMENT, x -> x.link(one, another, 1, trust));
            }
        }
    }

    private static void promise04Unlink(Place place) {
        for (int none : NO_CARRIERS) {
            place.refuses("unlink from " + none, Check.INDEX, x -> x.unlink(none, 1));
            place.refuses("unlink to " + none, Check.INDEX, x -> x.unlink(0, none));
        }
        place.refuses("unlink of what never was", Check.STATE, x -> x.unlink(0, 3));
        place.refuses("unlink of the other direction", Check.STATE, x -> x.unlink(2, 1));
        place.refuses("unlink of a carrier from itself", Check.STATE, x -> x.unlink(0, 0));
    }

    private static void promise05Number(Place place) {
        for (int none : NO_CARRIERS) {
            place.refuses("number at carrier " + none, Check.INDEX, x -> x.number(none, 1, 1));
        }
        for (int balance : new int[] {LOW, -1, 10001, HIGH}) {
            place.refuses("number with balance " + balance, Check.ARGUMENT, x -> x.number(0, balance, 1));
        }
        for (int bundle : new int[] {LOW, -1, 1001, HIGH}) {
            place.refuses("number with bundle " + bundle, Check.ARGUMENT, x -> x.number(0, 1, bundle));
        }
    }

    private static void promise05NumberOfAFullSwitch() {
        Place.FULL.refuses("the 21st number", Check.STATE, x -> x.number(0, 1, 1));
        Place.FULL.refuses("the 21st number", Check.STATE, x -> x.number(4, 10000, 1000));
    }

    private static void promise06CarryOver(Place place) {
        for (int none : beyond(place.numbers)) {
            place.refuses("carryOver of number " + none, Check.INDEX, x -> x.carryOver(none, 1));
        }
        if (place.numbers > 0) {
            for (int none : NO_CARRIERS) {
                place.refuses("carryOver to carrier " + none, Check.INDEX, x -> x.carryOver(0, none));
            }
            place.refuses("carryOver to its home", Check.ARGUMENT, x -> x.carryOver(0, 0));
        }
    }

    private static void promise06CarryOverOfAFullChain() {
        for (int carrier : new int[] {0, 1, 2, 4}) {
            Place.FULL.refuses("carryOver of a full chain to " + carrier, Check.STATE,
                    x -> x.carryOver(19, carrier));
        }
        Place.FULL.refuses("carryOver of a full chain to its home", Check.ARGUMENT, x -> x.carryOver(19, 3));
        Place.AT_WORK.refuses("carryOver to its home of a chain of three", Check.ARGUMENT, x -> x.carryOver(6, 2));
    }

    private static void promise07Home(Place place) {
        for (int none : beyond(place.numbers)) {
            place.refuses("home of number " + none, Check.INDEX, x -> x.home(none, 0));
        }
    }

    private static void promise07HomeThatIsNot() {
        for (int back : beyond(1)) {
            Place.AT_WORK.refuses("home of one, " + back + " back", Check.INDEX, x -> x.home(0, back));
        }
        for (int back : beyond(3)) {
            Place.AT_WORK.refuses("home of three, " + back + " back", Check.INDEX, x -> x.home(6, back));
        }
        for (int back : beyond(10)) {
            Place.FULL.refuses("home of ten, " + back + " back", Check.INDEX, x -> x.home(19, back));
        }
    }

    private static void promise08TopUp(Place place) {
        for (int none : beyond(place.numbers)) {
            place.refuses("topUp of number " + none, Check.INDEX, x -> x.topUp(none, 1, 1));
        }
        if (place.numbers > 0) {
            for (int balance : new int[] {LOW, -1, 10001, HIGH}) {
                place.refuses("topUp by balance " + balance, Check.ARGUMENT, x -> x.topUp(0, balance, 1));
            }
            for (int bundle : new int[] {LOW, -1, 1001, HIGH}) {
                place.refuses("topUp by bundle " + bundle, Check.ARGUMENT, x -> x.topUp(0, 1, bundle));
            }
        }
    }

    private static void promise08TopUpBeyondTheMost() {
        Place.RICH.refuses("topUp to a balance of 1000001", Check.STATE, x -> x.topUp(0, 2, 0));
        Place.RICH.refuses("topUp to a balance of 1000001, a bundle that fits", Check.STATE, x -> x.topUp(0, 2, 9));
        Place.RICH.refuses("topUp to a balance of 1009999", Check.STATE, x -> x.topUp(0, 10000, 1000));
        Place.RICH.refuses("topUp to a bundle of 100001", Check.STATE, x -> x.topUp(1, 0, 2));
        Place.RICH.refuses("topUp to a bundle of 100001, a balance that fits", Check.STATE, x -> x.topUp(1, 9, 2));
        Place.RICH.refuses("topUp to a bundle of 100999", Check.STATE, x -> x.topUp(1, 10000, 1000));
    }

    private static void promise09BalanceAnd10Bundle(Place place) {
        for (int none : beyond(place.numbers)) {
            place.refuses("balance of number " + none, Check.INDEX, x -> x.balance(none));
            place.refuses("bundle of number " + none, Check.INDEX, x -> x.bundle(none));
        }
    }

    private static void promise11Call(Place place) {
        for (int none : beyond(place.numbers)) {
            place.refuses("call by number " + none, Check.INDEX, x -> x.call(none, 0));
            place.refuses("call of number " + none, Check.INDEX, x -> x.call(0, none));
        }
        if (place.numbers > 0) {
            place.refuses("call of itself", Check.ARGUMENT, x -> x.call(0, 0));
            place.refuses("call of the last number by itself", Check.ARGUMENT,
                    x -> x.call(place.numbers - 1, place.numbers - 1));
        }
    }

    private static void promise11CallAtWork() {
        Place.AT_WORK.refuses("call by a running caller", Check.STATE, x -> x.call(0, 5));
        Place.AT_WORK.refuses("call of a running caller", Check.STATE, x -> x.call(5, 0));
        Place.AT_WORK.refuses("call by a running called one", Check.STATE, x -> x.call(1, 5));
        Place.AT_WORK.refuses("call of a running called one", Check.STATE, x -> x.call(5, 1));
        Place.AT_WORK.refuses("call over a link that is barred by 1", Check.STATE, x -> x.call(5, 7));
    }

    private static void promise11CallOfAFullSwitch() {
        Place.FULL.refuses("the 61st call", Check.STATE, x -> x.call(4, 9));
        Place.FULL.refuses("the 61st call, without a way", Check.STATE, x -> x.call(4, 5));
        Place.FULL.refuses("the 61st call, of a running number", Check.STATE, x -> x.call(5, 0));
    }

    private static void promise12HangUp(Place place) {
        for (int none : beyond(place.calls)) {
            place.refuses("hangUp of call " + none, Check.INDEX, x -> x.hangUp(none));
        }
    }

    private static void promise12HangUpNotRunning() {
        Place.AT_WORK.refuses("hangUp of an ended call", Check.STATE, x -> x.hangUp(1));
        Place.AT_WORK.refuses("hangUp of a cut call", Check.STATE, x -> x.hangUp(2));
        Place.FULL.refuses("hangUp of the first one of 60", Check.STATE, x -> x.hangUp(0));
        Place.FULL.refuses("hangUp of the last one that is ended", Check.STATE, x -> x.hangUp(56));
    }

    private static void promise13Pass(Place place) {
        for (int minutes : new int[] {LOW, -1, 0, 201, HIGH}) {
            place.refuses("pass of " + minutes, Check.ARGUMENT, x -> x.pass(minutes));
        }
    }

    private static void promise14StateTo17Way(Place place) {
        for (int none : beyond(place.calls)) {
            place.refuses("state of call " + none, Check.INDEX, x -> x.state(none));
            place.refuses("minutes of call " + none, Check.INDEX, x -> x.minutes(none));
            place.refuses("moved of call " + none, Check.INDEX, x -> x.moved(none));
            place.refuses("way of call " + none, Check.INDEX, x -> x.way(none, 0));
        }
    }

    private static void promise17WayThatIsNot() {
        for (int place : beyond(2)) {
            Place.AT_WORK.refuses("way of two at " + place, Check.INDEX, x -> x.way(0, place));
        }
        for (int place : beyond(3)) {
            Place.AT_WORK.refuses("way of three at " + place, Check.INDEX, x -> x.way(3, place));
        }
        for (int place : beyond(1)) {
            Place.FULL.refuses("way of one at " + place, Check.INDEX, x -> x.way(59, place));
        }
    }

    private static void promise18CostTo23Position(Place place) {
        for (int none : NO_CARRIERS) {
            place.refuses("cost from " + none, Check.INDEX, x -> x.cost(none, 1));
            place.refuses("cost to " + none, Check.INDEX, x -> x.cost(0, none));
            place.refuses("best from " + none, Check.INDEX, x -> x.best(none, 1, 0));
            place.refuses("best to " + none, Check.INDEX, x -> x.best(0, none, 0));
            place.refuses("isBarred from " + none, Check.INDEX, x -> x.isBarred(none, 1));
            place.refuses("isBarred to " + none, Check.INDEX, x -> x.isBarred(0, none));
            place.refuses("debt of " + none, Check.INDEX, x -> x.debt(none, 1));
            place.refuses("debt to " + none, Check.INDEX, x -> x.debt(0, none));
            place.refuses("charged of " + none, Check.INDEX, x -> x.charged(none, 1));
            place.refuses("charged to " + none, Check.INDEX, x -> x.charged(0, none));
            place.refuses("position of " + none, Check.INDEX, x -> x.position(none));
        }
    }

    private static void promise19BestThatIsNot() {
        Place.EMPTY.refuses("best without a link", Check.INDEX, x -> x.best(0, 1, 0));
        Place.AT_WORK.refuses("best without a way", Check.INDEX, x -> x.best(4, 0, 0));
        Place.AT_WORK.refuses("best over a barred link", Check.INDEX, x -> x.best(1, 2, 0));
        for (int place : beyond(2)) {
            Place.AT_WORK.refuses("best of two at " + place, Check.INDEX, x -> x.best(0, 1, place));
        }
    }

    private static void promise24Settle(Place place) {
        for (int none : NO_CARRIERS) {
            place.refuses("settle by " + none, Check.INDEX, x -> x.settle(none, 1));
            place.refuses("settle with " + none, Check.INDEX, x -> x.settle(0, none));
        }
        place.refuses("settle with itself", Check.STATE, x -> x.settle(0, 0));
        place.refuses("settle without a debt", Check.STATE, x -> x.settle(1, 4));
    }

    private static void promise24SettleAtWork() {
        Place.AT_WORK.refuses("settle by who is owed", Check.STATE, x -> x.settle(1, 0));
        Place.AT_WORK.refuses("settle of what is paid", Check.STATE, x -> x.settle(2, 3));
        Place.FULL.refuses("settle by who is owed", Check.STATE, x -> x.settle(1, 0));
    }

    /** The calls that only ask leave a switch as it is. */
    private static void questionsChangeNothing() {
        Twins.changesNothing("questions", Place.AT_WORK::tell, RefusedTest::askOfNumbersAndCalls,
                RefusedTest::passMinutes, RefusedTest::beginAnew);
        Twins.changesNothing("questions", Place.AT_WORK::tell, RefusedTest::askOfCarriers,
                RefusedTest::passMinutes, RefusedTest::beginAnew);
    }

    private static void askOfNumbersAndCalls(RoamLedger x) {
        for (int number = 0; number < 9; number++) {
            x.home(number, 0);
            x.balance(number);
            x.bundle(number);
        }
        for (int call = 0; call < 4; call++) {
            x.state(call);
            x.minutes(call);
            x.moved(call);
            x.way(call, 1);
        }
    }

    private static void askOfCarriers(RoamLedger x) {
        for (int from = 0; from < 5; from++) {
            x.position(from);
            for (int to = 0; to < 5; to++) {
                x.isBarred(from, to);
                x.debt(from, to);
                x.charged(from, to);
                if (x.cost(from, to) != RoamLedger.NONE) {
                    x.best(from, to, 0);
                }
            }
        }
    }
}
