/** Promises 18 to 24: routes and debts. */
public final class RoutesAndDebtsTest {
    private static final int LOW = Integer.MIN_VALUE;
    private static final int HIGH = Integer.MAX_VALUE;
    private static final int[] NO_CARRIERS = {LOW, -1, 5, HIGH};

    public static void main(String[] args) {
        promise18Cost();
        promise18WithoutAWay();
        promise19Best();
        promise19FewerCarriersAheadOfLower();
        promise19Wrong();
        promise20IsBarred();
        promise20BarredByDebt();
        promise21Debt();
        promise22Charged();
        promise22RatesOfEachMinute();
        promise23Position();
        promise24Settle();
        promise24SettleOpensAgain();
        Check.end();
    }

    private static void checkBest(RoamLedger x, int from, int to, int cost, int... due) {
        String what = "from " + from + " to " + to;
        Check.equal("cost " + what, cost, x.cost(from, to));
        for (int place = 0; place < due.length; place++) {
            Check.equal("best " + what + " at " + place, due[place], x.best(from, to, place));
        }
        Check.fails("best behind the end " + what, Check.INDEX, () -> x.best(from, to, due.length));
    }

    private static void promise18Cost() {
        RoamLedger x = new RoamLedger();
        x.link(0, 1, 100, 100000);
        x.link(1, 2, 100, 100000);
        x.link(2, 3, 100, 100000);
        x.link(3, 4, 100, 100000);
        checkBest(x, 0, 4, 400, 0, 1, 2, 3, 4);
        x.link(2, 4, 99, 100000);
        checkBest(x, 0, 4, 299, 0, 1, 2, 4);
        x.link(0, 4, 0, 0);
        checkBest(x, 0, 4, 0, 0, 4);
        checkBest(x, 0, 0, 0, 0);
        for (int carrier : NO_CARRIERS) {
            Check.fails("cost from " + carrier, Check.INDEX, () -> x.cost(carrier, 1));
            Check.fails("cost to " + carrier, Check.INDEX, () -> x.cost(1, carrier));
            Check.fails("cost of none to itself", Check.INDEX, () -> x.cost(carrier, carrier));
        }
    }

    private static void promise18WithoutAWay() {
        RoamLedger x = new RoamLedger();
        Check.equal("cost without links", RoamLedger.NONE, x.cost(0, 1));
        Check.equal("cost to itself", 0, x.cost(2, 2));
        x.link(0, 1, 1, 1);
        x.link(1, 0, 1, 1);
        x.link(2, 3, 1, 1);
        Check.equal("cost without a way", RoamLedger.NONE, x.cost(0, 3));
        x.link(1, 2, 7, 6);
        Check.equal("cost over a barred link", RoamLedger.NONE, x.cost(0, 3));
        x.link(1, 2, 7, 7);
        Check.equal("cost over a link no more barred", 9, x.cost(0, 3));
        Check.equal("cost the other way round", RoamLedger.NONE, x.cost(3, 0));
    }

    private static void promise19Best() {
        RoamLedger x = new RoamLedger();
        x.link(0, 3, 4, 100);
        x.link(3, 4, 4, 100);
        checkBest(x, 0, 4, 8, 0, 3, 4);
        x.link(0, 2, 4, 100);
        x.link(2, 4, 4, 100);
        checkBest(x, 0, 4, 8, 0, 2, 4);
        x.link(0, 1, 4, 100);
        x.link(1, 4, 4, 100);
        checkBest(x, 0, 4, 8, 0, 1, 4);
        x.link(1, 4, 5, 100);
        checkBest(x, 0, 4, 8, 0, 2, 4);
        x.link(3, 4, 3, 100);
        checkBest(x, 0, 4, 7, 0, 3, 4);
        x.link(0, 4, 7, 100);
        checkBest(x, 0, 4, 7, 0, 4);
    }

    private static void promise19FewerCarriersAheadOfLower() {
        RoamLedger x = new RoamLedger();
        x.link(0, 1, 1, 100);
        x.link(1, 2, 1, 100);
        x.link(2, 4, 1, 100);
        x.link(0, 3, 2, 100);
        x.link(3, 4, 1, 100);
        checkBest(x, 0, 4, 3, 0, 3, 4);
        x.link(3, 4, 2, 100);
        checkBest(x, 0, 4, 3, 0, 1, 2, 4);
        // Two ways of one cost and length that differ at their third place.
        x.unlink(0, 3);
        x.link(1, 3, 1, 100);
        x.link(3, 4, 1, 100);
        checkBest(x, 0, 4, 3, 0, 1, 2, 4);
        x.link(1, 2, 2, 100);
        checkBest(x, 0, 4, 3, 0, 1, 3, 4);
        // Links that cost nothing: the way with fewer carriers still wins, and none goes in a circle.
        RoamLedger y = new RoamLedger();
        for (int from = 0; from < 5; from++) {
            for (int to = 0; to < 5; to++) {
                if (from != to) {
                    y.link(from, to, 0, 0);
                }
            }
        }
        checkBest(y, 4, 0, 0, 4, 0);
        y.unlink(4, 0);
        checkBest(y, 4, 0, 0, 4, 1, 0);
        y.unlink(1, 0);
        checkBest(y, 4, 0, 0, 4, 2, 0);
        y.unlink(2, 0);
        y.unlink(4, 3);
        checkBest(y, 4, 0, 0, 4, 1, 3, 0);
        checkBest(y, 3, 3, 0, 3);
    }

    private static void promise19Wrong() {
        RoamLedger x = new RoamLedger();
        Check.fails("best without a way", Check.INDEX, () -> x.best(0, 1, 0));
        x.link(0, 1, 1, 1);
        Check.equal("best", 0, x.best(0, 1, 0));
        Check.equal("best", 1, x.best(0, 1, 1));
        for (int place : new int[] {LOW, -1, 2, 5, HIGH}) {
            Check.fails("best at " + place, Check.INDEX, () -> x.best(0, 1, place));
        }
        Check.equal("best to itself", 4, x.best(4, 4, 0));
        Check.fails("best to itself", Check.INDEX, () -> x.best(4, 4, 1));
        Check.fails("best to itself", Check.INDEX, () -> x.best(4, 4, -1));
        for (int carrier : NO_CARRIERS) {
            Check.fails("best from " + carrier, Check.INDEX, () -> x.best(carrier, 1, 0));
            Check.fails("best to " + carrier, Check.INDEX, () -> x.best(1, carrier, 0));
            Check.fails("best of none to itself", Check.INDEX, () -> x.best(carrier, carrier, 0));
        }
        x.link(0, 1, 2, 1);
        Check.fails("best over a barred link", Check.INDEX, () -> x.best(0, 1, 0));
    }

    private static void promise20IsBarred() {
        RoamLedger x = new RoamLedger();
        for (int carrier : NO_CARRIERS) {
            Check.fails("isBarred from " + carrier, Check.INDEX, () -> x.isBarred(carrier, 1));
            Check.fails("isBarred to " + carrier, Check.INDEX, () -> x.isBarred(1, carrier));
        }
        Check.yes("isBarred without a link", x.isBarred(0, 1));
        Check.yes("isBarred to itself", x.isBarred(3, 3));
        x.link(0, 1, 0, 0);
        Check.no("isBarred at rate 0 and trust 0", x.isBarred(0, 1));
        Check.yes("isBarred the other way round", x.isBarred(1, 0));
        x.link(0, 1, 1, 0);
        Check.yes("isBarred at rate 1 and trust 0", x.isBarred(0, 1));
        x.link(0, 1, 100, 100);
        Check.no("isBarred at rate 100 and trust 100", x.isBarred(0, 1));
        x.link(0, 1, 100, 99);
        Check.yes("isBarred at rate 100 and trust 99", x.isBarred(0, 1));
        x.unlink(0, 1);
        Check.yes("isBarred after unlink", x.isBarred(0, 1));
    }

    /** Carrier 0 pays 10 a minute to carrier 1; number 0 is at 0, number 1 at 1, and both can pay for long. */
    private static RoamLedger withOneLink(int trust) {
        RoamLedger x = new RoamLedger();
        x.link(0, 1, 10, trust);
        x.number(0, 10000, 1000);
        x.number(1, 10000, 1000);
        return x;
    }

    private static void promise20BarredByDebt() {
        RoamLedger x = withOneLink(50);
        x.call(0, 1);
        x.pass(4);
        Check.no("isBarred at a debt of 40", x.isBarred(0, 1));
        x.pass(1);
        Check.yes("isBarred at a debt of 50", x.isBarred(0, 1));
        Check.equal("cost over a barred link", RoamLedger.NONE, x.cost(0, 1));
        x.link(1, 0, 1, 0);
        Check.no("the other way round the debt is below 0", x.isBarred(1, 0));
        x.link(1, 0, 51, 0);
        Check.yes("a rate above what is owed and trusted", x.isBarred(1, 0));
        x.link(1, 0, 51, 1);
        Check.no("a rate as high as what is owed and trusted", x.isBarred(1, 0));
        x.settle(0, 1);
        Check.no("isBarred after settling", x.isBarred(0, 1));
        Check.yes("isBarred the other way round after settling", x.isBarred(1, 0));
    }

    private static void promise21Debt() {
        RoamLedger x = withOneLink(1000);
        x.link(1, 0, 7, 1000);
        x.call(0, 1);
        x.pass(3);
        Check.equal("debt", 30, x.debt(0, 1));
        Check.equal("debt the other way round", -30, x.debt(1, 0));
        Check.equal("debt to itself", 0, x.debt(0, 0));
        Check.equal("debt of others", 0, x.debt(2, 3));
        x.hangUp(0);
        x.call(1, 0);
        x.pass(5);
        Check.equal("debt less the other one", -5, x.debt(0, 1));
        Check.equal("debt the other way round", 5, x.debt(1, 0));
        x.hangUp(1);
        x.unlink(0, 1);
        x.unlink(1, 0);
        Check.equal("debt after unlink", 5, x.debt(1, 0));
        for (int carrier : NO_CARRIERS) {
            Check.fails("debt of " + carrier, Check.INDEX, () -> x.debt(carrier, 0));
            Check.fails("debt to " + carrier, Check.INDEX, () -> x.debt(0, carrier));
            Check.fails("debt of none to itself", Check.INDEX, () -> x.debt(carrier, carrier));
        }
    }

    private static void promise22Charged() {
        RoamLedger x = withOneLink(1000);
        x.number(2, 10000, 0);
        x.link(1, 2, 3, 1000);
        x.link(1, 0, 4, 1000);
        x.call(0, 2);
        x.pass(2);
        Check.equal("charged for the first link", 20, x.charged(0, 1));
        Check.equal("charged for the second link", 6, x.charged(1, 2));
        Check.equal("charged between the ends", 0, x.charged(0, 2));
        x.hangUp(0);
        x.call(1, 0);
        x.pass(3);
        Check.equal("charged is not less the other way round", 20, x.charged(0, 1));
        Check.equal("charged the other way round", 12, x.charged(1, 0));
        x.settle(0, 1);
        Check.equal("charged after it is paid", 20, x.charged(0, 1));
        Check.equal("charged to itself", 0, x.charged(1, 1));
        x.hangUp(1);
        x.call(0, 1);
        x.pass(1);
        Check.equal("charged by two calls", 30, x.charged(0, 1));
        x.unlink(0, 1);
        Check.equal("charged after unlink", 30, x.charged(0, 1));
        for (int carrier : NO_CARRIERS) {
            Check.fails("charged of " + carrier, Check.INDEX, () -> x.charged(carrier, 0));
            Check.fails("charged to " + carrier, Check.INDEX, () -> x.charged(0, carrier));
        }
    }

    private static void promise22RatesOfEachMinute() {
        RoamLedger x = withOneLink(100000);
        x.call(0, 1);
        x.pass(2);
        x.link(0, 1, 100, 100000);
        Check.equal("charged after another rate", 20, x.charged(0, 1));
        x.pass(3);
        Check.equal("charged by both rates", 320, x.charged(0, 1));
        x.link(0, 1, 0, 100000);
        x.pass(200);
        Check.equal("charged at the rate 0", 320, x.charged(0, 1));
        Check.equal("debt", 320, x.debt(0, 1));
    }

    private static void promise23Position() {
        RoamLedger x = withOneLink(1000);
        x.number(2, 10000, 0);
        x.link(1, 2, 3, 1000);
        x.link(2, 0, 50, 1000);
        x.call(0, 2);
        x.pass(2);
        Check.equal("position of who pays", -20, x.position(0));
        Check.equal("position of who gets and pays", 14, x.position(1));
        Check.equal("position of who gets", 6, x.position(2));
        Check.equal("position of another one", 0, x.position(3));
        Check.equal("position of the last one", 0, x.position(4));
        x.hangUp(0);
        x.call(2, 0);
        x.pass(1);
        Check.equal("position", 30, x.position(0));
        Check.equal("position", -44, x.position(2));
        x.settle(0, 1);
        Check.equal("position after settling", 50, x.position(0));
        Check.equal("position after settling", -6, x.position(1));
        for (int carrier : NO_CARRIERS) {
            Check.fails("position of " + carrier, Check.INDEX, () -> x.position(carrier));
        }
    }

    private static void promise24Settle() {
        RoamLedger x = withOneLink(1000);
        Check.fails("settle without a debt", Check.STATE, () -> x.settle(0, 1));
        Check.fails("settle with itself", Check.STATE, () -> x.settle(0, 0));
        x.call(0, 1);
        x.pass(3);
        for (int carrier : NO_CARRIERS) {
            Check.fails("settle by " + carrier, Check.INDEX, () -> x.settle(carrier, 1));
            Check.fails("settle with " + carrier, Check.INDEX, () -> x.settle(0, carrier));
        }
        Check.fails("settle with a debt below 0", Check.STATE, () -> x.settle(1, 0));
        Check.equal("debt after what threw", 30, x.debt(0, 1));
        Check.equal("settle", 30, x.settle(0, 1));
        Check.equal("debt after settling", 0, x.debt(0, 1));
        Check.equal("debt the other way round", 0, x.debt(1, 0));
        Check.fails("settle again", Check.STATE, () -> x.settle(0, 1));
        x.pass(1);
        Check.equal("debt after one minute more", 10, x.debt(0, 1));
        x.unlink(0, 1);
        Check.equal("settle without a link", 10, x.settle(0, 1));
    }

    private static void promise24SettleOpensAgain() {
        RoamLedger x = withOneLink(20);
        x.call(0, 1);
        x.pass(2);
        Check.yes("isBarred", x.isBarred(0, 1));
        Check.equal("settle", 20, x.settle(0, 1));
        Check.no("isBarred after settling", x.isBarred(0, 1));
        Check.equal("minutes after settling", 0, x.pass(2));
        Check.equal("a minute too many", 1, x.pass(1));
        Check.equal("charged", 40, x.charged(0, 1));
        Check.equal("debt", 20, x.debt(0, 1));
    }
}
