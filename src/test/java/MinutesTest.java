/** What the Terms say of balances, bundles and calls, and of a minute that passes, at their edges. */
public final class MinutesTest {
    public static void main(String[] args) {
        promise02ForLaterCallsOnly();
        promise02EachCarrierItsOwn();
        promise06RunningCallKeepsWayAndTariff();
        promise08BalanceAtItsMost();
        promise08BundleAtItsMost();
        promise08RoomAfterAMinute();
        promise08BothAtTheirMost();
        promise08RefusedIfOneIsTooLarge();
        promise08InTheMidstOfACall();
        promise11BestWayWhenSetUp();
        promise11WayBetweenTheHomesThen();
        promise11LinkAtItsTrust();
        promise11NothingIsPaidYet();
        promise11NoRunningCallAfterACut();
        promise11NeitherAsCallerNorAsCalled();
        promise12BeforeAnyMinute();
        promise12InTheMidstOfAStep();
        promise12OnlyOfRunning();
        promise13CutsOfAllMinutesTogether();
        promise13CutsOfBeforeAreNotTold();
        promise13MinuteByMinute();
        minute1FirstLinkBarred();
        minute1MiddleLinkBarred();
        minute1LastLinkBarred();
        minute1LinkThatIsNoMore();
        minute1AllLinksBarredAtOnce();
        minute1NotBeforeTheMinute();
        minute1NotMovedWhileOpen();
        minute1OtherWayAtItsTrust();
        minute1BestOfTheOpenWays();
        minute1BetweenTheSameCarriers();
        minute1WithinOneCarrier();
        minute1MovedOnceMoreEachTime();
        minute1NoWay();
        minute1NoWayPaysNoStep();
        minute2AtEachStep();
        minute2BundleOfJustTheStep();
        minute2BundleOfOneLess();
        minute2BalanceOfJustThePrice();
        minute2BalanceOfOneLess();
        minute2PriceNothing();
        minute2BundleAheadOfBalance();
        minute2OnlyTheCallerPays();
        minute2TariffOfTheCaller();
        minute2CutWithAFullBundleTooSmall();
        minute2MovedThenCut();
        minute3EachLinkByItsRate();
        minute3LastMinuteAtTheTrust();
        minute3NoPayWithoutTheStep();
        minuteByRisingNumbersTakesTrust();
        minuteByRisingNumbersGivesTrust();
        minuteCutLeavesTrustToTheNext();
        minuteCutDoesNothingMore();
        minuteEndedDoesNothingMore();
        Check.end();
    }

    private static void state(RoamLedger x, int call, int state, int minutes, int moved) {
        Check.equal("state of call " + call, state, x.state(call));
        Check.equal("minutes of call " + call, minutes, x.minutes(call));
        Check.equal("moves of call " + call, moved, x.moved(call));
    }

    private static void way(RoamLedger x, int call, int... due) {
        for (int place = 0; place < due.length; place++) {
            Check.equal("way of call " + call + " at " + place, due[place], x.way(call, place));
        }
        Check.fails("way of call " + call + " behind its end", Check.INDEX, () -> x.way(call, due.length));
    }

    private static void credit(RoamLedger x, int number, int balance, int bundle) {
        Check.equal("balance of " + number, balance, x.balance(number));
        Check.equal("bundle of " + number, bundle, x.bundle(number));
    }

    /** Two numbers at carrier 0, the first one with this balance and bundle. */
    private static RoamLedger withCaller(int balance, int bundle) {
        RoamLedger x = new RoamLedger();
        x.number(0, balance, bundle);
        x.number(0, 10000, 1000);
        return x;
    }

    /** Number n at carrier n for each carrier, and n + 5 too, all with a balance of 10000; each minute costs 10. */
    private static RoamLedger withTenNumbers() {
        RoamLedger x = new RoamLedger();
        for (int number = 0; number < 10; number++) {
            x.number(number % 5, 10000, 0);
        }
        return x;
    }

    private static void promise02ForLaterCallsOnly() {
        RoamLedger x = withCaller(1000, 0);
        x.tariff(0, 3, 50);
        x.call(0, 1);
        x.tariff(0, 1, 7);
        x.pass(6);
        credit(x, 0, 900, 0);
        x.hangUp(0);
        x.call(0, 1);
        x.pass(6);
        credit(x, 0, 858, 0);
    }

    private static void promise02EachCarrierItsOwn() {
        RoamLedger x = new RoamLedger();
        for (int carrier = 0; carrier < 5; carrier++) {
            x.tariff(carrier, 1, 100 * carrier);
            x.number(carrier, 1000, 0);
            x.number(carrier, 0, 0);
        }
        for (int carrier = 0; carrier < 5; carrier++) {
            x.call(2 * carrier, 2 * carrier + 1);
        }
        x.pass(2);
        for (int carrier = 0; carrier < 5; carrier++) {
            credit(x, 2 * carrier, 1000 - 200 * carrier, 0);
        }
    }

    private static void promise06RunningCallKeepsWayAndTariff() {
        RoamLedger x = withTenNumbers();
        x.link(0, 1, 5, 1000);
        x.tariff(3, 1, 500);
        x.call(0, 1);
        x.carryOver(0, 3);
        x.carryOver(1, 4);
        Check.equal("cut", 0, x.pass(2));
        way(x, 0, 0, 1);
        state(x, 0, RoamLedger.RUNNING, 2, 0);
        credit(x, 0, 9980, 0);
        Check.equal("debt", 10, x.debt(0, 1));
        Check.fails("still one running call", Check.STATE, () -> x.call(0, 8));
        x.hangUp(0);
        Check.equal("a call from the new home", 1, x.call(0, 8));
        x.pass(1);
        credit(x, 0, 9480, 0);
    }

    /** Number 0 of it is topped up to a balance of 1000000 and a bundle of 99000 less 1. */
    private static RoamLedger withMostBalance() {
        RoamLedger x = withCaller(10000, 0);
        for (int times = 1; times <= 99; times++) {
            x.topUp(0, 10000, times == 1 ? 999 : 1000);
        }
        return x;
    }

    private static void promise08BalanceAtItsMost() {
        RoamLedger x = withMostBalance();
        credit(x, 0, 1000000, 98999);
        Check.equal("topUp by nothing", 1000000, x.topUp(0, 0, 0));
        Check.fails("topUp by 1", Check.STATE, () -> x.topUp(0, 1, 0));
        Check.fails("topUp by 10000", Check.STATE, () -> x.topUp(0, 10000, 0));
        credit(x, 0, 1000000, 98999);
    }

    private static void promise08BundleAtItsMost() {
        RoamLedger x = withMostBalance();
        Check.equal("topUp of the bundle", 1000000, x.topUp(0, 0, 1000));
        Check.fails("topUp to 100001", Check.STATE, () -> x.topUp(0, 0, 2));
        Check.equal("topUp to 100000", 1000000, x.topUp(0, 0, 1));
        Check.equal("topUp by nothing", 1000000, x.topUp(0, 0, 0));
        Check.fails("topUp by 1", Check.STATE, () -> x.topUp(0, 0, 1));
        Check.fails("topUp by 1000", Check.STATE, () -> x.topUp(0, 0, 1000));
        credit(x, 0, 1000000, 100000);
    }

    /** A minute is paid from what is at its most, and there is room for just as much then. */
    private static void promise08RoomAfterAMinute() {
        RoamLedger x = withCaller(10000, 0);
        for (int times = 1; times <= 99; times++) {
            x.topUp(0, 10000, 0);
        }
        x.tariff(0, 1, 1000);
        x.call(0, 1);
        x.pass(2);
        credit(x, 0, 998000, 0);
        Check.fails("topUp by 2001", Check.STATE, () -> x.topUp(0, 2001, 0));
        Check.equal("topUp by 2000", 1000000, x.topUp(0, 2000, 0));
    }

    private static void promise08BothAtTheirMost() {
        RoamLedger x = withMostBalance();
        x.topUp(0, 0, 1000);
        x.topUp(0, 0, 1);
        x.tariff(0, 10, 1000);
        x.call(0, 1);
        x.pass(1);
        credit(x, 0, 1000000, 99990);
        Check.fails("topUp of the bundle by 11", Check.STATE, () -> x.topUp(0, 0, 11));
        Check.equal("topUp of the bundle by 10", 1000000, x.topUp(0, 0, 10));
        credit(x, 0, 1000000, 100000);
    }

    private static void promise08RefusedIfOneIsTooLarge() {
        RoamLedger x = withMostBalance();
        Check.fails("a balance too large, a bundle that fits", Check.STATE, () -> x.topUp(0, 1, 1000));
        credit(x, 0, 1000000, 98999);
        RoamLedger y = withCaller(0, 1000);
        for (int times = 1; times <= 99; times++) {
            y.topUp(0, 0, 1000);
        }
        credit(y, 0, 0, 100000);
        Check.fails("a bundle too large, a balance that fits", Check.STATE, () -> y.topUp(0, 10000, 1));
        credit(y, 0, 0, 100000);
        Check.equal("the balance alone", 10000, y.topUp(0, 10000, 0));
    }

    private static void promise08InTheMidstOfACall() {
        RoamLedger x = withCaller(10, 0);
        x.call(0, 1);
        Check.equal("the first minute", 0, x.pass(1));
        Check.equal("topUp", 20, x.topUp(0, 20, 1));
        Check.equal("one minute of the bundle, two of the balance", 0, x.pass(3));
        Check.equal("one minute too many", 1, x.pass(1));
        state(x, 0, RoamLedger.CUT, 4, 0);
        Check.equal("topUp after the cut", 10, x.topUp(0, 10, 0));
        Check.equal("cut stays cut", 0, x.pass(1));
        state(x, 0, RoamLedger.CUT, 4, 0);
        credit(x, 0, 10, 0);
    }

    private static void promise11BestWayWhenSetUp() {
        RoamLedger x = withTenNumbers();
        x.link(0, 1, 5, 1000);
        x.call(0, 1);
        x.link(0, 2, 1, 1000);
        x.link(2, 1, 1, 1000);
        x.call(5, 6);
        x.pass(2);
        way(x, 0, 0, 1);
        way(x, 1, 0, 2, 1);
        Check.equal("debt over the way of call 0", 10, x.debt(0, 1));
        Check.equal("debt over the way of call 1", 2, x.debt(0, 2));
    }

    private static void promise11WayBetweenTheHomesThen() {
        RoamLedger x = withTenNumbers();
        x.carryOver(0, 4);
        x.carryOver(0, 3);
        x.carryOver(1, 2);
        x.link(3, 2, 5, 1000);
        Check.fails("the other way round", Check.STATE, () -> x.call(1, 0));
        x.call(0, 1);
        way(x, 0, 3, 2);
        x.hangUp(0);
        x.carryOver(1, 3);
        x.call(1, 0);
        way(x, 1, 3);
    }

    private static void promise11LinkAtItsTrust() {
        RoamLedger x = withTenNumbers();
        x.link(0, 1, 7, 1000);
        x.call(0, 1);
        x.pass(2);
        x.hangUp(0);
        x.link(0, 1, 7, 20);
        Check.fails("a debt and rate one above the trust", Check.STATE, () -> x.call(0, 1));
        x.link(0, 1, 7, 21);
        Check.equal("a debt and rate at the trust", 1, x.call(0, 1));
        Check.equal("cut", 0, x.pass(1));
        Check.equal("debt", 21, x.debt(0, 1));
    }

    private static void promise11NothingIsPaidYet() {
        RoamLedger x = withTenNumbers();
        x.link(0, 1, 5, 1000);
        x.call(0, 1);
        state(x, 0, RoamLedger.RUNNING, 0, 0);
        credit(x, 0, 10000, 0);
        Check.equal("debt", 0, x.debt(0, 1));
        Check.equal("charged", 0, x.charged(0, 1));
        RoamLedger y = withCaller(0, 0);
        Check.equal("a call of who cannot pay is set up", 0, y.call(0, 1));
    }

    private static void promise11NoRunningCallAfterACut() {
        RoamLedger x = withCaller(0, 0);
        x.call(0, 1);
        Check.fails("caller while it runs", Check.STATE, () -> x.call(0, 1));
        Check.equal("cut", 1, x.pass(1));
        Check.equal("called one after the cut", 1, x.call(1, 0));
        x.hangUp(1);
        Check.equal("caller after the cut", 2, x.call(0, 1));
    }

    private static void promise11NeitherAsCallerNorAsCalled() {
        RoamLedger x = new RoamLedger();
        for (int number = 0; number < 4; number++) {
            x.number(0, 1000, 0);
        }
        x.call(0, 1);
        Check.fails("a caller as caller", Check.STATE, () -> x.call(0, 2));
        Check.fails("a caller as called", Check.STATE, () -> x.call(2, 0));
        Check.fails("a called one as caller", Check.STATE, () -> x.call(1, 2));
        Check.fails("a called one as called", Check.STATE, () -> x.call(2, 1));
        Check.equal("two others", 1, x.call(3, 2));
    }

    private static void promise12BeforeAnyMinute() {
        RoamLedger x = withCaller(100, 0);
        x.call(0, 1);
        Check.equal("hangUp", 0, x.hangUp(0));
        state(x, 0, RoamLedger.ENDED, 0, 0);
        credit(x, 0, 100, 0);
    }

    private static void promise12InTheMidstOfAStep() {
        RoamLedger x = withCaller(100, 0);
        x.tariff(0, 10, 60);
        x.call(0, 1);
        x.pass(3);
        Check.equal("hangUp", 3, x.hangUp(0));
        credit(x, 0, 40, 0);
        x.call(0, 1);
        Check.equal("a new call begins a new step", 1, x.pass(1));
        credit(x, 0, 40, 0);
    }

    private static void promise12OnlyOfRunning() {
        RoamLedger x = withCaller(10, 0);
        x.call(0, 1);
        x.hangUp(0);
        Check.fails("hangUp of an ended call", Check.STATE, () -> x.hangUp(0));
        x.call(0, 1);
        x.pass(2);
        Check.fails("hangUp of a cut call", Check.STATE, () -> x.hangUp(1));
        state(x, 0, RoamLedger.ENDED, 0, 0);
        state(x, 1, RoamLedger.CUT, 1, 0);
    }

    private static void promise13CutsOfAllMinutesTogether() {
        RoamLedger x = new RoamLedger();
        for (int number = 0; number < 20; number++) {
            x.number(0, number < 10 ? 10 * number : 0, 0);
        }
        for (int call = 0; call < 10; call++) {
            x.call(call, call + 10);
        }
        Check.equal("one is cut in each minute", 4, x.pass(4));
        Check.equal("one is cut in each minute", 6, x.pass(200));
        for (int call = 0; call < 10; call++) {
            state(x, call, RoamLedger.CUT, call, 0);
        }
    }

    private static void promise13CutsOfBeforeAreNotTold() {
        RoamLedger x = withCaller(0, 0);
        x.call(0, 1);
        Check.equal("cut", 1, x.pass(200));
        Check.equal("no more", 0, x.pass(200));
        x.call(1, 0);
        x.hangUp(1);
        Check.equal("none is cut by hanging up", 0, x.pass(1));
    }

    /** All calls have their minute before any of them has its next one: call 1 has one of the three minutes. */
    private static void promise13MinuteByMinute() {
        RoamLedger x = withTenNumbers();
        x.link(0, 1, 10, 30);
        x.call(0, 1);
        x.call(5, 6);
        Check.equal("both are cut", 2, x.pass(3));
        state(x, 0, RoamLedger.CUT, 2, 0);
        state(x, 1, RoamLedger.CUT, 1, 0);
    }

    /** Calls from 0 to 3 go over 1 and 2; from 0, 1 and 2 there is a dearer way to 3 over 4 too. */
    private static RoamLedger withTwoWays() {
        RoamLedger x = withTenNumbers();
        x.link(0, 1, 1, 1000);
        x.link(1, 2, 1, 1000);
        x.link(2, 3, 1, 1000);
        x.link(0, 4, 50, 1000);
        x.link(4, 3, 50, 1000);
        x.call(0, 3);
        x.pass(1);
        way(x, 0, 0, 1, 2, 3);
        return x;
    }

    private static void isMovedOver4(RoamLedger x) {
        Check.equal("cut", 0, x.pass(1));
        state(x, 0, RoamLedger.RUNNING, 2, 1);
        way(x, 0, 0, 4, 3);
        Check.equal("debt over the way of before", 1, x.debt(0, 1));
        Check.equal("debt over the new way", 50, x.debt(4, 3));
    }

    private static void minute1FirstLinkBarred() {
        RoamLedger x = withTwoWays();
        x.link(0, 1, 1, 1);
        isMovedOver4(x);
    }

    private static void minute1MiddleLinkBarred() {
        RoamLedger x = withTwoWays();
        x.link(1, 2, 1, 1);
        isMovedOver4(x);
    }

    private static void minute1LastLinkBarred() {
        RoamLedger x = withTwoWays();
        x.link(2, 3, 1, 1);
        isMovedOver4(x);
    }

    private static void minute1LinkThatIsNoMore() {
        for (int from = 0; from < 3; from++) {
            RoamLedger x = withTwoWays();
            x.unlink(from, from + 1);
            isMovedOver4(x);
        }
    }

    private static void minute1AllLinksBarredAtOnce() {
        RoamLedger x = withTwoWays();
        x.link(0, 1, 1, 1);
        x.unlink(1, 2);
        x.link(2, 3, 1, 1);
        isMovedOver4(x);
    }

    private static void minute1NotBeforeTheMinute() {
        RoamLedger x = withTwoWays();
        x.unlink(0, 1);
        state(x, 0, RoamLedger.RUNNING, 1, 0);
        way(x, 0, 0, 1, 2, 3);
        x.link(0, 1, 2, 1000);
        Check.equal("cut", 0, x.pass(1));
        state(x, 0, RoamLedger.RUNNING, 2, 0);
        way(x, 0, 0, 1, 2, 3);
        Check.equal("debt by both rates", 3, x.debt(0, 1));
    }

    /** Neither a cheaper way nor a higher rate moves a call, only a barred link. */
    private static void minute1NotMovedWhileOpen() {
        RoamLedger x = withTwoWays();
        x.link(0, 3, 0, 1000);
        x.link(1, 2, 100, 101);
        Check.equal("cut", 0, x.pass(1));
        state(x, 0, RoamLedger.RUNNING, 2, 0);
        way(x, 0, 0, 1, 2, 3);
        Check.equal("cut", 0, x.pass(1));
        state(x, 0, RoamLedger.RUNNING, 3, 1);
        way(x, 0, 0, 3);
    }

    /** The other way is open with its link at the trust, and no way with a trust of one less. */
    private static void minute1OtherWayAtItsTrust() {
        RoamLedger x = withTwoWays();
        x.unlink(1, 2);
        x.link(0, 4, 50, 50);
        isMovedOver4(x);
        RoamLedger y = withTwoWays();
        y.unlink(1, 2);
        y.link(0, 4, 50, 49);
        Check.equal("cut", 1, y.pass(1));
        state(y, 0, RoamLedger.CUT, 1, 0);
        way(y, 0, 0, 1, 2, 3);
    }

    /** The call moves to the best one of the ways that are open, which is not the cheapest one of all. */
    private static void minute1BestOfTheOpenWays() {
        RoamLedger x = withTwoWays();
        x.link(1, 3, 99, 1000);
        x.link(0, 3, 2, 1);
        x.link(2, 3, 1, 1);
        Check.equal("cut", 0, x.pass(1));
        state(x, 0, RoamLedger.RUNNING, 2, 1);
        way(x, 0, 0, 1, 3);
        Check.equal("cost of the other one", 100, x.cost(0, 3));
    }

    private static void minute1BetweenTheSameCarriers() {
        RoamLedger x = withTwoWays();
        x.carryOver(0, 2);
        x.carryOver(3, 1);
        x.unlink(0, 1);
        isMovedOver4(x);
        Check.equal("the way between the new homes is another one", RoamLedger.NONE, x.cost(2, 1));
    }

    private static void minute1WithinOneCarrier() {
        RoamLedger x = withTenNumbers();
        x.call(0, 5);
        x.link(0, 1, 100, 0);
        Check.equal("cut", 0, x.pass(200));
        state(x, 0, RoamLedger.RUNNING, 200, 0);
        way(x, 0, 0);
        for (int carrier = 0; carrier < 5; carrier++) {
            Check.equal("charged", 0, x.charged(0, carrier));
        }
    }

    private static void minute1MovedOnceMoreEachTime() {
        RoamLedger x = withTenNumbers();
        x.link(0, 4, 1, 1);
        x.link(0, 1, 2, 2);
        x.link(1, 4, 2, 1000);
        x.link(0, 2, 3, 3);
        x.link(2, 4, 3, 1000);
        x.call(0, 4);
        for (int minute = 1; minute <= 3; minute++) {
            Check.equal("cut", 0, x.pass(1));
            state(x, 0, RoamLedger.RUNNING, minute, minute - 1);
        }
        way(x, 0, 0, 2, 4);
        x.settle(0, 4);
        x.pass(1);
        state(x, 0, RoamLedger.RUNNING, 4, 3);
        way(x, 0, 0, 4);
        Check.equal("no way is left", 1, x.pass(1));
        state(x, 0, RoamLedger.CUT, 4, 3);
        way(x, 0, 0, 4);
    }

    private static void minute1NoWay() {
        RoamLedger x = withTwoWays();
        x.link(4, 3, 50, 49);
        x.unlink(1, 2);
        Check.equal("cut", 1, x.pass(1));
        state(x, 0, RoamLedger.CUT, 1, 0);
        way(x, 0, 0, 1, 2, 3);
        Check.equal("debt", 1, x.debt(0, 1));
        Check.equal("charged", 1, x.charged(2, 3));
    }

    private static void minute1NoWayPaysNoStep() {
        RoamLedger x = withTenNumbers();
        x.topUp(0, 0, 5);
        x.link(0, 1, 1, 1);
        x.call(0, 1);
        x.pass(1);
        credit(x, 0, 10000, 4);
        Check.equal("cut", 1, x.pass(1));
        credit(x, 0, 10000, 4);
    }

    private static void minute2AtEachStep() {
        for (int step = 1; step <= 10; step++) {
            RoamLedger x = withCaller(1000, 0);
            x.tariff(0, step, 100);
            x.call(0, 1);
            for (int minute = 0; minute < 5 * step; minute++) {
                x.pass(1);
                credit(x, 0, 900 - 100 * (minute / step), 0);
            }
        }
    }

    private static void minute2BundleOfJustTheStep() {
        for (int step = 1; step <= 10; step++) {
            RoamLedger x = withCaller(0, step);
            x.tariff(0, step, 1);
            x.call(0, 1);
            Check.equal("cut", 0, x.pass(step));
            credit(x, 0, 0, 0);
            Check.equal("cut", 1, x.pass(1));
            state(x, 0, RoamLedger.CUT, step, 0);
        }
    }

    private static void minute2BundleOfOneLess() {
        for (int step = 1; step <= 10; step++) {
            RoamLedger x = withCaller(100, step - 1);
            x.tariff(0, step, 100);
            x.call(0, 1);
            Check.equal("cut", 0, x.pass(step));
            credit(x, 0, 0, step - 1);
            Check.equal("cut", 1, x.pass(1));
            credit(x, 0, 0, step - 1);
            state(x, 0, RoamLedger.CUT, step, 0);
        }
    }

    private static void minute2BalanceOfJustThePrice() {
        for (int price : new int[] {1, 10, 1000}) {
            RoamLedger x = withCaller(price, 0);
            x.tariff(0, 1, price);
            x.call(0, 1);
            Check.equal("cut", 0, x.pass(1));
            credit(x, 0, 0, 0);
            Check.equal("cut", 1, x.pass(1));
            state(x, 0, RoamLedger.CUT, 1, 0);
        }
    }

    private static void minute2BalanceOfOneLess() {
        for (int price : new int[] {1, 10, 1000}) {
            RoamLedger x = withCaller(price - 1, 0);
            x.tariff(0, 1, price);
            x.call(0, 1);
            Check.equal("cut", 1, x.pass(1));
            credit(x, 0, price - 1, 0);
            state(x, 0, RoamLedger.CUT, 0, 0);
        }
    }

    private static void minute2PriceNothing() {
        RoamLedger x = withCaller(0, 0);
        x.tariff(0, 1, 0);
        x.call(0, 1);
        Check.equal("cut", 0, x.pass(200));
        state(x, 0, RoamLedger.RUNNING, 200, 0);
        x.topUp(0, 0, 3);
        Check.equal("cut", 0, x.pass(2));
        credit(x, 0, 0, 1);
    }

    private static void minute2BundleAheadOfBalance() {
        RoamLedger x = withCaller(100, 8);
        x.tariff(0, 3, 20);
        x.call(0, 1);
        x.pass(4);
        credit(x, 0, 100, 2);
        x.pass(3);
        credit(x, 0, 80, 2);
        x.topUp(0, 0, 1);
        x.pass(3);
        credit(x, 0, 80, 0);
    }

    private static void minute2OnlyTheCallerPays() {
        RoamLedger x = withCaller(15, 1);
        x.call(0, 1);
        Check.equal("cut", 1, x.pass(200));
        state(x, 0, RoamLedger.CUT, 2, 0);
        credit(x, 0, 5, 0);
        credit(x, 1, 10000, 1000);
    }

    private static void minute2TariffOfTheCaller() {
        RoamLedger x = withTenNumbers();
        x.link(0, 1, 1, 1000);
        x.link(1, 2, 1, 1000);
        x.tariff(0, 4, 7);
        x.tariff(1, 1, 100);
        x.tariff(2, 2, 500);
        x.call(0, 2);
        x.pass(5);
        credit(x, 0, 9986, 0);
        credit(x, 2, 10000, 0);
    }

    private static void minute2CutWithAFullBundleTooSmall() {
        RoamLedger x = withCaller(999, 9);
        x.tariff(0, 10, 1000);
        x.call(0, 1);
        Check.equal("bundle and balance are one too small", 1, x.pass(1));
        credit(x, 0, 999, 9);
        state(x, 0, RoamLedger.CUT, 0, 0);
        x.topUp(0, 1, 0);
        x.call(0, 1);
        Check.equal("cut", 0, x.pass(10));
        credit(x, 0, 0, 9);
        x.topUp(0, 0, 1);
        Check.equal("cut", 0, x.pass(10));
        credit(x, 0, 0, 0);
    }

    private static void minute2MovedThenCut() {
        RoamLedger x = withTenNumbers();
        x.number(0, 10, 0);
        x.link(0, 1, 1, 1000);
        x.call(10, 1);
        x.pass(1);
        x.unlink(0, 1);
        x.link(0, 2, 3, 1000);
        x.link(2, 1, 3, 1000);
        Check.equal("cut", 1, x.pass(1));
        state(x, 0, RoamLedger.CUT, 1, 1);
        way(x, 0, 0, 2, 1);
        Check.equal("nothing is charged over the new way", 0, x.charged(0, 2));
        credit(x, 10, 0, 0);
    }

    private static void minute3EachLinkByItsRate() {
        RoamLedger x = withTenNumbers();
        x.link(0, 1, 0, 1000);
        x.link(1, 2, 100, 1000);
        x.link(2, 3, 7, 1000);
        x.link(3, 4, 1, 1000);
        x.link(1, 0, 9, 1000);
        x.call(0, 4);
        x.pass(3);
        Check.equal("debt", 0, x.debt(0, 1));
        Check.equal("debt", 300, x.debt(1, 2));
        Check.equal("debt", 21, x.debt(2, 3));
        Check.equal("debt", 3, x.debt(3, 4));
        state(x, 0, RoamLedger.RUNNING, 3, 0);
    }

    private static void minute3LastMinuteAtTheTrust() {
        RoamLedger x = withTenNumbers();
        x.link(0, 1, 7, 21);
        x.call(0, 1);
        Check.equal("as far as the trust", 0, x.pass(3));
        Check.equal("debt", 21, x.debt(0, 1));
        Check.equal("one minute too many", 1, x.pass(1));
        Check.equal("debt", 21, x.debt(0, 1));
        x.link(0, 1, 7, 41);
        x.call(0, 1);
        Check.equal("one less than three minutes", 1, x.pass(200));
        Check.equal("debt", 35, x.debt(0, 1));
        state(x, 1, RoamLedger.CUT, 2, 0);
    }

    private static void minute3NoPayWithoutTheStep() {
        RoamLedger x = withTenNumbers();
        x.number(0, 9, 0);
        x.link(0, 1, 7, 100);
        x.call(10, 1);
        Check.equal("cut", 1, x.pass(1));
        state(x, 0, RoamLedger.CUT, 0, 0);
        Check.equal("debt", 0, x.debt(0, 1));
        Check.equal("charged", 0, x.charged(0, 1));
    }

    /** There is trust for one minute more: the call with the lower number has it, whoever called first. */
    private static void minuteByRisingNumbersTakesTrust() {
        RoamLedger x = withTenNumbers();
        x.link(0, 1, 10, 10);
        x.call(5, 6);
        x.call(0, 1);
        Check.equal("cut", 1, x.pass(1));
        state(x, 0, RoamLedger.RUNNING, 1, 0);
        state(x, 1, RoamLedger.CUT, 0, 0);
    }

    /** What the one pays in a minute lowers the debt of the other one for the calls behind it, not ahead of it. */
    private static void minuteByRisingNumbersGivesTrust() {
        RoamLedger x = withTenNumbers();
        x.link(0, 1, 10, 10);
        x.link(1, 0, 10, 1000);
        x.call(0, 1);
        x.pass(1);
        Check.yes("barred", x.isBarred(0, 1));
        x.hangUp(0);
        x.call(1, 0);
        x.link(0, 1, 10, 20);
        x.call(5, 6);
        x.link(0, 1, 10, 10);
        Check.yes("barred before the minute", x.isBarred(0, 1));
        Check.equal("call 1 pays ahead of call 2", 0, x.pass(1));
        state(x, 2, RoamLedger.RUNNING, 1, 0);
        Check.equal("debt", 10, x.debt(0, 1));

        RoamLedger y = withTenNumbers();
        y.link(0, 1, 10, 20);
        y.link(1, 0, 10, 1000);
        y.call(0, 1);
        y.pass(1);
        y.call(6, 5);
        y.link(0, 1, 10, 10);
        Check.equal("call 0 is looked at ahead of call 1", 1, y.pass(1));
        state(y, 0, RoamLedger.CUT, 1, 0);
        state(y, 1, RoamLedger.RUNNING, 1, 0);
    }

    /** Call 0 cannot pay its step, so the one minute that there is trust for is had by call 1. */
    private static void minuteCutLeavesTrustToTheNext() {
        RoamLedger x = withTenNumbers();
        x.number(0, 9, 0);
        x.link(0, 1, 10, 10);
        x.call(10, 1);
        x.call(0, 6);
        Check.equal("cut", 1, x.pass(1));
        state(x, 0, RoamLedger.CUT, 0, 0);
        state(x, 1, RoamLedger.RUNNING, 1, 0);
    }

    private static void minuteCutDoesNothingMore() {
        RoamLedger x = withTenNumbers();
        x.link(0, 1, 10, 20);
        x.call(0, 1);
        Check.equal("cut", 1, x.pass(200));
        x.settle(0, 1);
        x.link(0, 2, 1, 1000);
        x.link(2, 1, 1, 1000);
        Check.equal("cut", 0, x.pass(200));
        state(x, 0, RoamLedger.CUT, 2, 0);
        way(x, 0, 0, 1);
        credit(x, 0, 9980, 0);
        Check.equal("debt", 0, x.debt(0, 1));
        Check.equal("debt", 0, x.debt(0, 2));
        Check.equal("charged", 20, x.charged(0, 1));
    }

    private static void minuteEndedDoesNothingMore() {
        RoamLedger x = withTenNumbers();
        x.link(0, 1, 10, 1000);
        x.call(0, 1);
        x.pass(2);
        x.hangUp(0);
        x.unlink(0, 1);
        Check.equal("cut", 0, x.pass(200));
        state(x, 0, RoamLedger.ENDED, 2, 0);
        way(x, 0, 0, 1);
        credit(x, 0, 9980, 0);
        Check.equal("debt", 20, x.debt(0, 1));
    }
}
