/** Promises 1 to 10: a new object, carriers, links and numbers. */
public final class NumbersTest {
    private static final int LOW = Integer.MIN_VALUE;
    private static final int HIGH = Integer.MAX_VALUE;
    private static final int[] NO_CARRIERS = {LOW, -1, 5, HIGH};

    public static void main(String[] args) {
        promise01NewObject();
        promise02Tariff();
        promise02TariffForLaterCalls();
        promise03Link();
        promise03LinkAnew();
        promise04Unlink();
        promise05Number();
        promise06CarryOver();
        promise06RunningCallGoesOn();
        promise07Home();
        promise08TopUp();
        promise08MostBalance();
        promise08MostBundle();
        promise09And10Kept();
        Check.end();
    }

    private static void promise01NewObject() {
        RoamLedger x = new RoamLedger();
        for (int from = 0; from < 5; from++) {
            Check.equal("position", 0, x.position(from));
            for (int to = 0; to < 5; to++) {
                Check.yes("isBarred without a link", x.isBarred(from, to));
                Check.equal("cost without a link", from == to ? 0 : RoamLedger.NONE, x.cost(from, to));
                Check.equal("debt", 0, x.debt(from, to));
                Check.equal("charged", 0, x.charged(from, to));
            }
        }
        Check.fails("balance without numbers", Check.INDEX, () -> x.balance(0));
        Check.fails("state without calls", Check.INDEX, () -> x.state(0));
        RoamLedger y = new RoamLedger();
        x.number(0, 1, 1);
        x.link(0, 1, 1, 1);
        x.tariff(0, 2, 3);
        Check.fails("balance of another object", Check.INDEX, () -> y.balance(0));
        Check.yes("isBarred of another object", y.isBarred(0, 1));
        Check.equal("tariff of another object", 10, y.tariff(0, 1, 1));
    }

    private static void promise02Tariff() {
        RoamLedger x = new RoamLedger();
        for (int carrier = 0; carrier < 5; carrier++) {
            Check.equal("first price", 10, x.tariff(carrier, 1, carrier));
        }
        for (int carrier = 0; carrier < 5; carrier++) {
            Check.equal("price before", carrier, x.tariff(carrier, 10, 1000));
            Check.equal("price before", 1000, x.tariff(carrier, 1, 0));
            Check.equal("price before", 0, x.tariff(carrier, 5, 7));
        }
        for (int carrier : NO_CARRIERS) {
            Check.fails("tariff of carrier " + carrier, Check.INDEX, () -> x.tariff(carrier, 1, 1));
            Check.fails("tariff, carrier ahead of step", Check.INDEX, () -> x.tariff(carrier, 0, -1));
        }
        for (int step : new int[] {LOW, -1, 0, 11, HIGH}) {
            Check.fails("tariff with step " + step, Check.ARGUMENT, () -> x.tariff(0, step, 1));
        }
        for (int price : new int[] {LOW, -1, 1001, HIGH}) {
            Check.fails("tariff with price " + price, Check.ARGUMENT, () -> x.tariff(0, 1, price));
        }
        Check.equal("price after what threw", 7, x.tariff(0, 1, 1));
    }

    private static void promise02TariffForLaterCalls() {
        RoamLedger x = new RoamLedger();
        x.number(3, 1000, 0);
        x.number(3, 0, 0);
        x.call(0, 1);
        x.tariff(3, 4, 100);
        x.pass(3);
        Check.equal("balance by the first tariff, 1 minute and 10", 970, x.balance(0));
        x.hangUp(0);
        Check.fails("a step out of its range", Check.ARGUMENT, () -> x.tariff(3, 11, 5));
        Check.fails("a price out of its range", Check.ARGUMENT, () -> x.tariff(3, 5, 1001));
        x.call(0, 1);
        x.pass(4);
        Check.equal("balance after a step", 870, x.balance(0));
        x.pass(1);
        Check.equal("balance after the next step has begun", 770, x.balance(0));
        x.hangUp(1);
        x.tariff(3, 10, 0);
        x.call(0, 1);
        x.pass(11);
        Check.equal("balance at the price 0", 770, x.balance(0));
    }

    private static void promise03Link() {
        RoamLedger x = new RoamLedger();
        Check.no("link for the first time", x.link(0, 1, 0, 0));
        Check.yes("link for the second time", x.link(0, 1, 100, 100000));
        Check.no("link the other way round", x.link(1, 0, 3, 3));
        Check.equal("cost", 100, x.cost(0, 1));
        Check.equal("cost the other way round", 3, x.cost(1, 0));
        Check.no("link of the last carriers", x.link(4, 3, 1, 1));
        for (int carrier : NO_CARRIERS) {
            Check.fails("link from " + carrier, Check.INDEX, () -> x.link(carrier, 1, 1, 1));
            Check.fails("link to " + carrier, Check.INDEX, () -> x.link(1, carrier, 1, 1));
            Check.fails("link of none to itself", Check.INDEX, () -> x.link(carrier, carrier, -1, -1));
        }
        Check.fails("link to itself", Check.ARGUMENT, () -> x.link(2, 2, 1, 1));
        for (int rate : new int[] {LOW, -1, 101, HIGH}) {
            Check.fails("link with rate " + rate, Check.ARGUMENT, () -> x.link(0, 1, rate, 1));
        }
        for (int trust : new int[] {LOW, -1, 100001, HIGH}) {
            Check.fails("link with trust " + trust, Check.ARGUMENT, () -> x.link(0, 1, 1, trust));
            Check.fails("link with trust " + trust, Check.ARGUMENT, () -> x.link(2, 1, 1, trust));
        }
        Check.equal("rate after what threw", 100, x.cost(0, 1));
        Check.no("link after what threw", x.link(2, 1, 1, 1));
    }

    private static void promise03LinkAnew() {
        RoamLedger x = new RoamLedger();
        x.link(0, 1, 5, 4);
        Check.yes("rate above the trust", x.isBarred(0, 1));
        x.link(0, 1, 5, 5);
        Check.no("rate as high as the trust", x.isBarred(0, 1));
        x.number(0, 1000, 0);
        x.number(1, 0, 0);
        x.call(0, 1);
        x.pass(1);
        Check.yes("debt and rate above the trust", x.isBarred(0, 1));
        x.link(0, 1, 6, 11);
        Check.equal("debt after another rate", 5, x.debt(0, 1));
        x.pass(1);
        Check.equal("debt by the new rate", 11, x.debt(0, 1));
    }

    private static void promise04Unlink() {
        RoamLedger x = new RoamLedger();
        x.link(0, 1, 7, 100);
        x.link(1, 0, 0, 100);
        x.number(0, 1000, 0);
        x.number(1, 0, 0);
        x.call(0, 1);
        x.pass(2);
        for (int carrier : NO_CARRIERS) {
            Check.fails("unlink from " + carrier, Check.INDEX, () -> x.unlink(carrier, 1));
            Check.fails("unlink to " + carrier, Check.INDEX, () -> x.unlink(0, carrier));
        }
        Check.equal("unlink", 7, x.unlink(0, 1));
        Check.equal("debt after unlink", 14, x.debt(0, 1));
        Check.equal("charged after unlink", 14, x.charged(0, 1));
        Check.yes("isBarred after unlink", x.isBarred(0, 1));
        Check.fails("unlink again", Check.STATE, () -> x.unlink(0, 1));
        Check.equal("unlink at the rate 0", 0, x.unlink(1, 0));
        Check.fails("unlink again", Check.STATE, () -> x.unlink(1, 0));
        Check.fails("unlink what never was", Check.STATE, () -> x.unlink(3, 4));
        Check.fails("unlink of a carrier from itself", Check.STATE, () -> x.unlink(2, 2));
        Check.no("link after unlink", x.link(0, 1, 1, 100));
        Check.no("isBarred after the new link", x.isBarred(0, 1));
    }

    private static void promise05Number() {
        RoamLedger x = new RoamLedger();
        for (int carrier : NO_CARRIERS) {
            Check.fails("number at " + carrier, Check.INDEX, () -> x.number(carrier, -1, -1));
        }
        demandCreditFailures("number", (balance, bundle) -> x.number(0, balance, bundle));
        for (int number = 0; number < 20; number++) {
            int balance = number == 19 ? 10000 : number;
            int bundle = number == 19 ? 1000 : 2 * number;
            Check.equal("number", number, x.number(number % 5, balance, bundle));
        }
        for (int number = 0; number < 20; number++) {
            Check.equal("home", number % 5, x.home(number, 0));
            Check.equal("balance", number == 19 ? 10000 : number, x.balance(number));
            Check.equal("bundle", number == 19 ? 1000 : 2 * number, x.bundle(number));
        }
        Check.fails("the 21st number", Check.STATE, () -> x.number(0, 0, 0));
        Check.fails("the 21st number, balance ahead", Check.ARGUMENT, () -> x.number(0, 10001, 0));
        Check.fails("the 21st number, bundle ahead", Check.ARGUMENT, () -> x.number(0, 0, 1001));
        Check.fails("the 21st number, carrier ahead", Check.INDEX, () -> x.number(5, 0, 0));
        Check.fails("balance of the 21st number", Check.INDEX, () -> x.balance(20));
    }

    private interface Credit {
        int give(int balance, int bundle);
    }

    private static void demandCreditFailures(String what, Credit credit) {
        for (int balance : new int[] {LOW, -1, 10001, HIGH}) {
            Check.fails(what + " with balance " + balance, Check.ARGUMENT, () -> credit.give(balance, 0));
        }
        for (int bundle : new int[] {LOW, -1, 1001, HIGH}) {
            Check.fails(what + " with bundle " + bundle, Check.ARGUMENT, () -> credit.give(0, bundle));
        }
    }

    private static void promise06CarryOver() {
        RoamLedger x = new RoamLedger();
        Check.fails("carryOver without numbers", Check.INDEX, () -> x.carryOver(0, 1));
        x.number(0, 0, 0);
        x.number(2, 0, 0);
        for (int number : new int[] {LOW, -1, 2, 20, HIGH}) {
            Check.fails("carryOver of " + number, Check.INDEX, () -> x.carryOver(number, 1));
        }
        for (int carrier : NO_CARRIERS) {
            Check.fails("carryOver to " + carrier, Check.INDEX, () -> x.carryOver(0, carrier));
        }
        Check.fails("carryOver to its home", Check.ARGUMENT, () -> x.carryOver(0, 0));
        for (int homes = 2; homes <= 10; homes++) {
            Check.equal("carryOver", homes, x.carryOver(0, (homes - 1) % 5));
        }
        Check.fails("carryOver of a full chain", Check.STATE, () -> x.carryOver(0, 0));
        Check.fails("carryOver of a full chain to its home", Check.ARGUMENT, () -> x.carryOver(0, 4));
        Check.fails("carryOver of a full chain to none", Check.INDEX, () -> x.carryOver(0, 5));
        Check.equal("home of a full chain", 4, x.home(0, 0));
        Check.equal("home of the other number", 2, x.home(1, 0));
        Check.equal("carryOver of the other number", 2, x.carryOver(1, 3));
        Check.equal("carryOver to a home of before", 3, x.carryOver(1, 2));
    }

    private static void promise06RunningCallGoesOn() {
        RoamLedger x = new RoamLedger();
        x.link(0, 1, 2, 100);
        x.tariff(0, 1, 5);
        x.tariff(4, 1, 50);
        x.number(0, 1000, 0);
        x.number(1, 1000, 0);
        x.call(0, 1);
        x.carryOver(0, 4);
        x.carryOver(1, 3);
        Check.equal("minutes that cut nothing", 0, x.pass(2));
        Check.equal("state", RoamLedger.RUNNING, x.state(0));
        Check.equal("balance by the tariff of before", 990, x.balance(0));
        Check.equal("debt over the way of before", 4, x.debt(0, 1));
        Check.equal("way", 0, x.way(0, 0));
        Check.equal("way", 1, x.way(0, 1));
        x.unlink(0, 1);
        x.link(0, 2, 1, 100);
        x.link(2, 1, 1, 100);
        Check.equal("moved between the carriers of before", 0, x.pass(1));
        Check.equal("way", 2, x.way(0, 1));
        Check.equal("way", 1, x.way(0, 2));
        x.hangUp(0);
        Check.fails("call between the new homes", Check.STATE, () -> x.call(0, 1));
    }

    private static void promise07Home() {
        RoamLedger x = new RoamLedger();
        Check.fails("home without numbers", Check.INDEX, () -> x.home(0, 0));
        x.number(3, 0, 0);
        x.number(1, 0, 0);
        Check.equal("home", 3, x.home(0, 0));
        Check.fails("home ahead of the first one", Check.INDEX, () -> x.home(0, 1));
        int[] chain = {3, 0, 3, 4, 1, 2, 0, 1, 2, 4};
        for (int place = 1; place < chain.length; place++) {
            x.carryOver(0, chain[place]);
            for (int back = 0; back <= place; back++) {
                Check.equal("home " + back + " back of " + (place + 1), chain[place - back], x.home(0, back));
            }
            int tooFar = place + 1;
            Check.fails("home too far back", Check.INDEX, () -> x.home(0, tooFar));
        }
        for (int back : new int[] {LOW, -1, 10, HIGH}) {
            Check.fails("home " + back + " back", Check.INDEX, () -> x.home(0, back));
        }
        for (int number : new int[] {LOW, -1, 2, 20, HIGH}) {
            Check.fails("home of " + number, Check.INDEX, () -> x.home(number, 0));
        }
        Check.equal("home of the other number", 1, x.home(1, 0));
        Check.fails("home of the other number", Check.INDEX, () -> x.home(1, 1));
    }

    private static void promise08TopUp() {
        RoamLedger x = new RoamLedger();
        Check.fails("topUp without numbers", Check.INDEX, () -> x.topUp(0, 0, 0));
        x.number(0, 5, 6);
        x.number(1, 50, 60);
        Check.equal("topUp", 15, x.topUp(0, 10, 20));
        Check.equal("bundle", 26, x.bundle(0));
        Check.equal("topUp by nothing", 15, x.topUp(0, 0, 0));
        Check.equal("topUp by the most", 10015, x.topUp(0, 10000, 1000));
        Check.equal("bundle", 1026, x.bundle(0));
        demandCreditFailures("topUp", (balance, bundle) -> x.topUp(0, balance, bundle));
        for (int number : new int[] {LOW, -1, 2, 20, HIGH}) {
            Check.fails("topUp of " + number, Check.INDEX, () -> x.topUp(number, -1, -1));
        }
        Check.equal("balance after what threw", 10015, x.balance(0));
        Check.equal("bundle after what threw", 1026, x.bundle(0));
        Check.equal("balance of the other number", 50, x.balance(1));
        Check.equal("bundle of the other number", 60, x.bundle(1));
    }

    private static void promise08MostBalance() {
        RoamLedger x = new RoamLedger();
        x.number(0, 9999, 0);
        for (int times = 1; times <= 99; times++) {
            Check.equal("topUp", 9999 + 10000 * times, x.topUp(0, 10000, 1));
        }
        Check.fails("a balance of 1000001", Check.STATE, () -> x.topUp(0, 2, 5));
        Check.fails("a balance far too large", Check.STATE, () -> x.topUp(0, 10000, 5));
        Check.fails("a balance far too large, bundle ahead", Check.ARGUMENT, () -> x.topUp(0, 10000, 1001));
        Check.equal("balance after what threw", 999999, x.balance(0));
        Check.equal("bundle after what threw", 99, x.bundle(0));
        Check.equal("a balance of 1000000", 1000000, x.topUp(0, 1, 1));
        Check.fails("a balance of 1000001", Check.STATE, () -> x.topUp(0, 1, 0));
        Check.equal("topUp of the bundle alone", 1000000, x.topUp(0, 0, 1000));
        Check.equal("bundle", 1100, x.bundle(0));
    }

    private static void promise08MostBundle() {
        RoamLedger x = new RoamLedger();
        x.number(0, 0, 999);
        for (int times = 1; times <= 99; times++) {
            Check.equal("topUp", times, x.topUp(0, 1, 1000));
        }
        Check.fails("a bundle of 100001", Check.STATE, () -> x.topUp(0, 5, 2));
        Check.equal("balance after what threw", 99, x.balance(0));
        Check.equal("bundle after what threw", 99999, x.bundle(0));
        Check.equal("a bundle of 100000", 100, x.topUp(0, 1, 1));
        Check.equal("bundle", 100000, x.bundle(0));
        Check.fails("a bundle of 100001", Check.STATE, () -> x.topUp(0, 0, 1));
        Check.equal("topUp of the balance alone", 10100, x.topUp(0, 10000, 0));
    }

    private static void promise09And10Kept() {
        RoamLedger x = new RoamLedger();
        x.number(0, 100, 3);
        x.number(0, 10000, 1000);
        x.call(0, 1);
        x.pass(1);
        Check.equal("bundle after a minute", 2, x.bundle(0));
        Check.equal("balance after a minute", 100, x.balance(0));
        x.pass(3);
        Check.equal("bundle after four minutes", 0, x.bundle(0));
        Check.equal("balance after four minutes", 90, x.balance(0));
        Check.equal("bundle of the called number", 1000, x.bundle(1));
        Check.equal("balance of the called number", 10000, x.balance(1));
        x.carryOver(0, 4);
        Check.equal("bundle of a number carried over", 0, x.bundle(0));
        Check.equal("balance of a number carried over", 90, x.balance(0));
        for (int number : new int[] {LOW, -1, 2, 20, HIGH}) {
            Check.fails("balance of " + number, Check.INDEX, () -> x.balance(number));
            Check.fails("bundle of " + number, Check.INDEX, () -> x.bundle(number));
        }
    }
}
