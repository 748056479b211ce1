/** Several exceptions that apply to one call: the one that its promise lists first is thrown. */
public final class FirstExceptionTest {
    private static final int[] NO_CARRIERS = {Integer.MIN_VALUE, -1, 5, Integer.MAX_VALUE};

    public static void main(String[] args) {
        promise02CarrierAheadOfStepAndPrice();
        promise03CarrierAheadOfTheSame();
        promise03CarrierAheadOfRateAndTrust();
        promise04CarrierAheadOfNoLink();
        promise05CarrierAheadOfBalanceAndBundle();
        promise05CarrierAheadOfTwenty();
        promise05BalanceAndBundleAheadOfTwenty();
        promise06NumberOrCarrierAheadOfItsHome();
        promise06NumberOrCarrierAheadOfTenHomes();
        promise06ItsHomeAheadOfTenHomes();
        promise07NumberAndBackAtOnce();
        promise08NumberAheadOfBalanceAndBundle();
        promise08RangesAheadOfTheMost();
        promise11NumberAheadOfTheSame();
        promise11NumberAheadOfState();
        promise11TheSameAheadOfState();
        promise11AllOfItsStatesAtOnce();
        promise19CarrierAndPlaceAtOnce();
        promise24CarrierAheadOfNoDebt();
        Check.end();
    }

    private static void promise02CarrierAheadOfStepAndPrice() {
        RoamLedger x = new RoamLedger();
        for (int none : NO_CARRIERS) {
            Check.fails("tariff, no carrier and step 0", Check.INDEX, () -> x.tariff(none, 0, 1));
            Check.fails("tariff, no carrier and step 11", Check.INDEX, () -> x.tariff(none, 11, 1));
            Check.fails("tariff, no carrier and price -1", Check.INDEX, () -> x.tariff(none, 1, -1));
            Check.fails("tariff, no carrier and price 1001", Check.INDEX, () -> x.tariff(none, 1, 1001));
            Check.fails("tariff, nothing fits", Check.INDEX, () -> x.tariff(none, 0, -1));
        }
        Check.fails("tariff, step and price", Check.ARGUMENT, () -> x.tariff(0, 11, 1001));
    }

    private static void promise03CarrierAheadOfTheSame() {
        RoamLedger x = new RoamLedger();
        for (int none : NO_CARRIERS) {
            Check.fails("link, no carrier, to itself", Check.INDEX, () -> x.link(none, none, 1, 1));
            Check.fails("link, nothing fits", Check.INDEX, () -> x.link(none, none, -1, -1));
        }
        Check.fails("link to itself, rate and trust", Check.ARGUMENT, () -> x.link(1, 1, 101, 100001));
    }

    private static void promise03CarrierAheadOfRateAndTrust() {
        RoamLedger x = new RoamLedger();
        for (int none : NO_CARRIERS) {
            Check.fails("link from none, rate", Check.INDEX, () -> x.link(none, 0, 101, 1));
            Check.fails("link from none, trust", Check.INDEX, () -> x.link(none, 0, 1, 100001));
            Check.fails("link to none, rate", Check.INDEX, () -> x.link(0, none, -1, 1));
            Check.fails("link to none, trust", Check.INDEX, () -> x.link(0, none, 1, -1));
        }
    }

    private static void promise04CarrierAheadOfNoLink() {
        RoamLedger x = new RoamLedger();
        for (int none : NO_CARRIERS) {
            Check.fails("unlink from none", Check.INDEX, () -> x.unlink(none, 0));
            Check.fails("unlink to none", Check.INDEX, () -> x.unlink(0, none));
            Check.fails("unlink of none from itself", Check.INDEX, () -> x.unlink(none, none));
        }
    }

    private static void promise05CarrierAheadOfBalanceAndBundle() {
        RoamLedger x = new RoamLedger();
        for (int none : NO_CARRIERS) {
            Check.fails("number, no carrier and balance", Check.INDEX, () -> x.number(none, 10001, 0));
            Check.fails("number, no carrier and bundle", Check.INDEX, () -> x.number(none, 0, 1001));
            Check.fails("number, nothing fits", Check.INDEX, () -> x.number(none, -1, -1));
        }
        Check.fails("number, balance and bundle", Check.ARGUMENT, () -> x.number(0, 10001, 1001));
    }

    private static RoamLedger withTwentyNumbers() {
        RoamLedger x = new RoamLedger();
        for (int number = 0; number < 20; number++) {
            x.number(0, 10000, 0);
        }
        return x;
    }

    private static void promise05CarrierAheadOfTwenty() {
        RoamLedger x = withTwentyNumbers();
        for (int none : NO_CARRIERS) {
            Check.fails("the 21st number, no carrier", Check.INDEX, () -> x.number(none, 0, 0));
            Check.fails("the 21st number, nothing fits", Check.INDEX, () -> x.number(none, -1, 1001));
        }
    }

    private static void promise05BalanceAndBundleAheadOfTwenty() {
        RoamLedger x = withTwentyNumbers();
        Check.fails("the 21st number, balance -1", Check.ARGUMENT, () -> x.number(0, -1, 0));
        Check.fails("the 21st number, balance 10001", Check.ARGUMENT, () -> x.number(0, 10001, 0));
        Check.fails("the 21st number, bundle -1", Check.ARGUMENT, () -> x.number(0, 0, -1));
        Check.fails("the 21st number, bundle 1001", Check.ARGUMENT, () -> x.number(0, 0, 1001));
        Check.fails("the 21st number, both", Check.ARGUMENT, () -> x.number(0, 10001, 1001));
    }

    private static void promise06NumberOrCarrierAheadOfItsHome() {
        RoamLedger x = withTwentyNumbers();
        Check.fails("carryOver of no number to the home of all", Check.INDEX, () -> x.carryOver(20, 0));
        Check.fails("carryOver of no number to the home of all", Check.INDEX, () -> x.carryOver(-1, 0));
        for (int none : NO_CARRIERS) {
            Check.fails("carryOver to no carrier", Check.INDEX, () -> x.carryOver(0, none));
            Check.fails("carryOver of no number to no carrier", Check.INDEX, () -> x.carryOver(20, none));
        }
    }

    /** Number 0 has the homes 0, 1, 0, 1 and so on, ten in all. */
    private static RoamLedger withTenHomes() {
        RoamLedger x = new RoamLedger();
        x.number(0, 0, 0);
        for (int homes = 2; homes <= 10; homes++) {
            x.carryOver(0, (homes - 1) % 2);
        }
        return x;
    }

    private static void promise06NumberOrCarrierAheadOfTenHomes() {
        RoamLedger x = withTenHomes();
        for (int none : NO_CARRIERS) {
            Check.fails("carryOver of a full chain to no carrier", Check.INDEX, () -> x.carryOver(0, none));
        }
        Check.fails("carryOver of a full chain to another one", Check.STATE, () -> x.carryOver(0, 0));
    }

    private static void promise06ItsHomeAheadOfTenHomes() {
        RoamLedger x = withTenHomes();
        Check.fails("carryOver of a full chain to its home", Check.ARGUMENT, () -> x.carryOver(0, 1));
    }

    private static void promise07NumberAndBackAtOnce() {
        RoamLedger x = withTwentyNumbers();
        Check.fails("home, neither fits", Check.INDEX, () -> x.home(20, 1));
        Check.fails("home, neither fits", Check.INDEX, () -> x.home(-1, -1));
    }

    private static void promise08NumberAheadOfBalanceAndBundle() {
        RoamLedger x = withTwentyNumbers();
        for (int none : new int[] {Integer.MIN_VALUE, -1, 20, Integer.MAX_VALUE}) {
            Check.fails("topUp, no number and balance", Check.INDEX, () -> x.topUp(none, 10001, 0));
            Check.fails("topUp, no number and bundle", Check.INDEX, () -> x.topUp(none, 0, 1001));
            Check.fails("topUp, nothing fits", Check.INDEX, () -> x.topUp(none, -1, -1));
        }
        Check.fails("topUp, balance and bundle", Check.ARGUMENT, () -> x.topUp(0, 10001, 1001));
    }

    private static void promise08RangesAheadOfTheMost() {
        RoamLedger x = new RoamLedger();
        x.number(0, 10000, 1000);
        for (int times = 0; times < 99; times++) {
            x.topUp(0, 10000, 1000);
        }
        Check.fails("topUp, balance 10001 and too much", Check.ARGUMENT, () -> x.topUp(0, 10001, 0));
        Check.fails("topUp, balance far too large", Check.ARGUMENT, () -> x.topUp(0, Integer.MAX_VALUE, 0));
        Check.fails("topUp, bundle 1001 and too much", Check.ARGUMENT, () -> x.topUp(0, 0, 1001));
        Check.fails("topUp, bundle far too large", Check.ARGUMENT, () -> x.topUp(0, 0, Integer.MAX_VALUE));
        Check.fails("topUp, balance too much and bundle -1", Check.ARGUMENT, () -> x.topUp(0, 1, -1));
        Check.fails("topUp, balance too much and bundle 1001", Check.ARGUMENT, () -> x.topUp(0, 1, 1001));
        Check.fails("topUp, bundle too much and balance -1", Check.ARGUMENT, () -> x.topUp(0, -1, 1));
        Check.fails("topUp, bundle too much and balance 10001", Check.ARGUMENT, () -> x.topUp(0, 10001, 1));
        Check.fails("topUp, both too much", Check.STATE, () -> x.topUp(0, 1, 1));
    }

    private static void promise11NumberAheadOfTheSame() {
        RoamLedger x = withTwentyNumbers();
        for (int none : new int[] {Integer.MIN_VALUE, -1, 20, Integer.MAX_VALUE}) {
            Check.fails("call of no number by itself", Check.INDEX, () -> x.call(none, none));
        }
    }

    /** 60 calls, the last one running, between the numbers 0 and 1; number 19 has a home without a way to it. */
    private static RoamLedger withSixtyCalls() {
        RoamLedger x = withTwentyNumbers();
        for (int call = 0; call < 59; call++) {
            x.call(0, 1);
            x.hangUp(call);
        }
        x.call(0, 1);
        x.carryOver(19, 4);
        return x;
    }

    private static void promise11NumberAheadOfState() {
        RoamLedger y = withTwentyNumbers();
        y.call(0, 1);
        Check.fails("a running caller calls no number", Check.INDEX, () -> y.call(0, 20));
        Check.fails("a running number is called by none", Check.INDEX, () -> y.call(-1, 1));
        RoamLedger x = withSixtyCalls();
        Check.fails("the 61st call, of no number", Check.INDEX, () -> x.call(2, 20));
        Check.fails("the 61st call, by no number", Check.INDEX, () -> x.call(20, 2));
        Check.fails("the 61st call, of no number by itself", Check.INDEX, () -> x.call(-1, -1));
    }

    private static void promise11TheSameAheadOfState() {
        RoamLedger y = withTwentyNumbers();
        y.call(0, 1);
        Check.fails("a running caller calls itself", Check.ARGUMENT, () -> y.call(0, 0));
        Check.fails("a running called one calls itself", Check.ARGUMENT, () -> y.call(1, 1));
        RoamLedger x = withSixtyCalls();
        Check.fails("the 61st call, of itself", Check.ARGUMENT, () -> x.call(2, 2));
        Check.fails("the 61st call, of itself, running", Check.ARGUMENT, () -> x.call(0, 0));
    }

    private static void promise11AllOfItsStatesAtOnce() {
        RoamLedger x = withSixtyCalls();
        Check.fails("the 61st call, alone", Check.STATE, () -> x.call(2, 3));
        Check.fails("the 61st call, without a way", Check.STATE, () -> x.call(2, 19));
        Check.fails("the 61st call, with a running one", Check.STATE, () -> x.call(0, 2));
        Check.fails("the 61st call, with a running one, without a way", Check.STATE, () -> x.call(0, 19));
    }

    private static void promise19CarrierAndPlaceAtOnce() {
        RoamLedger x = new RoamLedger();
        for (int none : NO_CARRIERS) {
            Check.fails("best from none at -1", Check.INDEX, () -> x.best(none, 0, -1));
            Check.fails("best to none at 5", Check.INDEX, () -> x.best(0, none, 5));
        }
        Check.fails("best without a way at -1", Check.INDEX, () -> x.best(0, 1, -1));
        Check.fails("best without a way at 5", Check.INDEX, () -> x.best(0, 1, 5));
    }

    private static void promise24CarrierAheadOfNoDebt() {
        RoamLedger x = new RoamLedger();
        for (int none : NO_CARRIERS) {
            Check.fails("settle by none", Check.INDEX, () -> x.settle(none, 0));
            Check.fails("settle with none", Check.INDEX, () -> x.settle(0, none));
            Check.fails("settle of none with itself", Check.INDEX, () -> x.settle(none, none));
        }
    }
}
