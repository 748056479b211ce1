/** What the Terms say of debts, barred links and ways, and the promises 18 to 24 at their edges. */
public final class LinksAndWaysTest {
    private static final int MOST_TRUST = 100000;

    public static void main(String[] args) {
        promise03AnotherRateAndTrustAtOnce();
        promise04UnlinkedAndLinkedAgain();
        promise04DebtsStay();
        promise18NoLinkBackwards();
        promise18ItselfNeedsNoLink();
        promise18BarredLinkIsNoWay();
        promise18SumOfAllRates();
        promise19LeastCostAheadOfFewerCarriers();
        promise19FewerCarriersAheadOfLowerOnes();
        promise19LowerAtTheSecondPlace();
        promise19LowerAtTheThirdPlace();
        promise19LowerBeforeTheyMeetAgain();
        promise19ChangesWithTheDebts();
        promise20DebtAtTheTrust();
        promise20DebtOneAboveTheTrust();
        promise20RateAlone();
        promise20RateNothing();
        promise20DebtBelowZero();
        promise20TrustMadeLess();
        promise20OneWayOnly();
        promise21AsMuchBelowZero();
        promise21LessTheOtherWayRound();
        promise21OverEachLinkAlone();
        promise22OfEveryState();
        promise22NotTheOtherWayRound();
        promise22PaidOrNot();
        promise22RateOfTheMinute();
        promise22OfEachWayOfACall();
        promise23SumsToNothing();
        promise23LessWhatItOwes();
        promise24DebtOfOne();
        promise24OnlyWhoOwes();
        promise24ThatDebtAlone();
        promise24AllOfIt();
        Check.end();
    }

    /** Number n at carrier n for each carrier, all with 10000 and no bundle; a step is 10 minutes and free. */
    private static RoamLedger withFiveNumbers() {
        RoamLedger x = new RoamLedger();
        for (int carrier = 0; carrier < 5; carrier++) {
            x.tariff(carrier, 10, 0);
            x.number(carrier, 10000, 0);
        }
        return x;
    }

    /** Sets a call up, lets it run, and hangs it up. */
    private static void talk(RoamLedger x, int caller, int called, int minutes) {
        int call = x.call(caller, called);
        x.pass(minutes);
        x.hangUp(call);
    }

    private static void best(RoamLedger x, int from, int to, int cost, int... due) {
        String what = "from " + from + " to " + to;
        Check.equal("cost " + what, cost, x.cost(from, to));
        for (int place = 0; place < due.length; place++) {
            Check.equal("best " + what + " at " + place, due[place], x.best(from, to, place));
        }
        Check.fails("best " + what + " behind its end", Check.INDEX, () -> x.best(from, to, due.length));
    }

    private static void noWay(RoamLedger x, int from, int to) {
        Check.equal("cost from " + from + " to " + to, RoamLedger.NONE, x.cost(from, to));
        Check.fails("best from " + from + " to " + to, Check.INDEX, () -> x.best(from, to, 0));
    }

    private static void promise03AnotherRateAndTrustAtOnce() {
        RoamLedger x = new RoamLedger();
        Check.no("the first time", x.link(0, 1, 5, 4));
        Check.yes("barred", x.isBarred(0, 1));
        Check.yes("another trust", x.link(0, 1, 5, 5));
        Check.no("barred", x.isBarred(0, 1));
        Check.yes("another rate", x.link(0, 1, 6, 5));
        Check.yes("barred", x.isBarred(0, 1));
        Check.yes("the same again", x.link(0, 1, 6, 5));
        Check.equal("its rate", 6, x.unlink(0, 1));
    }

    private static void promise04UnlinkedAndLinkedAgain() {
        RoamLedger x = new RoamLedger();
        x.link(0, 1, 0, 0);
        Check.equal("rate", 0, x.unlink(0, 1));
        Check.fails("unlink again", Check.STATE, () -> x.unlink(0, 1));
        Check.no("no link before", x.link(0, 1, 3, 3));
        Check.yes("a link before", x.link(0, 1, 100, 3));
        Check.equal("rate of a barred link", 100, x.unlink(0, 1));
        Check.fails("unlink again", Check.STATE, () -> x.unlink(0, 1));
        x.link(1, 0, 3, 3);
        Check.fails("unlink of the other direction", Check.STATE, () -> x.unlink(0, 1));
        Check.no("the other direction stays", x.isBarred(1, 0));
    }

    private static void promise04DebtsStay() {
        RoamLedger x = withFiveNumbers();
        x.link(0, 1, 10, 30);
        talk(x, 0, 1, 2);
        x.unlink(0, 1);
        Check.equal("debt", 20, x.debt(0, 1));
        Check.equal("debt the other way round", -20, x.debt(1, 0));
        Check.equal("position", 20, x.position(1));
        x.link(0, 1, 11, 30);
        Check.yes("the new link is barred by the debt of before", x.isBarred(0, 1));
        x.link(0, 1, 10, 30);
        Check.no("the new link has trust for one minute", x.isBarred(0, 1));
    }

    private static void promise18NoLinkBackwards() {
        RoamLedger x = new RoamLedger();
        x.link(0, 1, 1, 1);
        x.link(1, 2, 1, 1);
        Check.equal("forwards", 2, x.cost(0, 2));
        noWay(x, 2, 0);
        noWay(x, 1, 0);
    }

    private static void promise18ItselfNeedsNoLink() {
        RoamLedger x = new RoamLedger();
        for (int carrier = 0; carrier < 5; carrier++) {
            best(x, carrier, carrier, 0, carrier);
        }
        // Links to itself round another carrier are no part of that way.
        x.link(0, 1, 0, 0);
        x.link(1, 0, 0, 0);
        best(x, 0, 0, 0, 0);
    }

    private static void promise18BarredLinkIsNoWay() {
        RoamLedger x = new RoamLedger();
        x.link(0, 1, 1, 1);
        x.link(1, 2, 1, 1);
        x.link(2, 3, 1, 1);
        Check.equal("open", 3, x.cost(0, 3));
        x.link(0, 1, 1, 0);
        noWay(x, 0, 3);
        x.link(0, 1, 1, 1);
        x.link(1, 2, 1, 0);
        noWay(x, 0, 3);
        x.link(1, 2, 1, 1);
        x.link(2, 3, 1, 0);
        noWay(x, 0, 3);
        Check.equal("as far as it is open", 2, x.cost(0, 2));
        x.link(0, 3, 50, 50);
        Check.equal("round the barred one", 50, x.cost(0, 3));
    }

    private static void promise18SumOfAllRates() {
        RoamLedger x = new RoamLedger();
        x.link(4, 2, 100, 100);
        best(x, 4, 2, 100, 4, 2);
        x.link(2, 0, 99, 99);
        best(x, 4, 0, 199, 4, 2, 0);
        x.link(0, 3, 0, 0);
        best(x, 4, 3, 199, 4, 2, 0, 3);
        x.link(3, 1, 100, 100);
        best(x, 4, 1, 299, 4, 2, 0, 3, 1);
    }

    private static void promise19LeastCostAheadOfFewerCarriers() {
        RoamLedger x = new RoamLedger();
        x.link(0, 4, 100, 100);
        x.link(0, 1, 25, 100);
        x.link(1, 2, 25, 100);
        x.link(2, 3, 25, 100);
        x.link(3, 4, 24, 100);
        best(x, 0, 4, 99, 0, 1, 2, 3, 4);
        x.link(3, 4, 25, 100);
        best(x, 0, 4, 100, 0, 4);
        x.link(0, 4, 1, 100);
        x.link(0, 1, 0, 100);
        x.link(1, 2, 0, 100);
        x.link(2, 3, 0, 100);
        x.link(3, 4, 0, 100);
        best(x, 0, 4, 0, 0, 1, 2, 3, 4);
        x.link(3, 4, 1, 100);
        best(x, 0, 4, 1, 0, 4);
    }

    private static void promise19FewerCarriersAheadOfLowerOnes() {
        RoamLedger x = new RoamLedger();
        x.link(4, 0, 1, 100);
        x.link(0, 1, 1, 100);
        x.link(1, 3, 1, 100);
        best(x, 4, 3, 3, 4, 0, 1, 3);
        x.link(4, 2, 2, 100);
        x.link(2, 3, 1, 100);
        best(x, 4, 3, 3, 4, 2, 3);
        x.link(4, 3, 3, 100);
        best(x, 4, 3, 3, 4, 3);
    }

    private static void promise19LowerAtTheSecondPlace() {
        RoamLedger x = new RoamLedger();
        for (int middle = 3; middle >= 1; middle--) {
            x.link(0, middle, middle, 100);
            x.link(middle, 4, 5 - middle, 100);
            best(x, 0, 4, 5, 0, middle, 4);
        }
    }

    private static void promise19LowerAtTheThirdPlace() {
        RoamLedger x = new RoamLedger();
        x.link(4, 1, 1, 100);
        x.link(1, 3, 1, 100);
        x.link(3, 2, 2, 100);
        best(x, 4, 2, 4, 4, 1, 3, 2);
        x.link(1, 0, 2, 100);
        x.link(0, 2, 1, 100);
        best(x, 4, 2, 4, 4, 1, 0, 2);
        x.link(0, 2, 2, 100);
        best(x, 4, 2, 4, 4, 1, 3, 2);
    }

    /** The ways 3 0 2 4 and 3 1 2 4 meet again at carrier 2. */
    private static void promise19LowerBeforeTheyMeetAgain() {
        RoamLedger x = new RoamLedger();
        x.link(3, 1, 1, 100);
        x.link(1, 2, 4, 100);
        x.link(2, 4, 7, 100);
        best(x, 3, 4, 12, 3, 1, 2, 4);
        x.link(3, 0, 4, 100);
        x.link(0, 2, 1, 100);
        best(x, 3, 4, 12, 3, 0, 2, 4);
        x.link(3, 0, 5, 100);
        best(x, 3, 4, 12, 3, 1, 2, 4);
    }

    private static void promise19ChangesWithTheDebts() {
        RoamLedger x = withFiveNumbers();
        x.link(0, 1, 10, 10);
        x.link(0, 2, 6, 100);
        x.link(2, 1, 6, 100);
        best(x, 0, 1, 10, 0, 1);
        talk(x, 0, 1, 1);
        best(x, 0, 1, 12, 0, 2, 1);
        x.settle(0, 1);
        best(x, 0, 1, 10, 0, 1);
    }

    private static void promise20DebtAtTheTrust() {
        RoamLedger x = withFiveNumbers();
        x.link(0, 1, 7, 21);
        Check.no("barred at 0 and 7", x.isBarred(0, 1));
        talk(x, 0, 1, 1);
        Check.no("barred at 7 and 7", x.isBarred(0, 1));
        talk(x, 0, 1, 1);
        Check.no("barred at 14 and 7, which is the trust", x.isBarred(0, 1));
        talk(x, 0, 1, 1);
        Check.yes("barred at 21 and 7", x.isBarred(0, 1));
        Check.equal("debt", 21, x.debt(0, 1));
    }

    private static void promise20DebtOneAboveTheTrust() {
        RoamLedger x = withFiveNumbers();
        x.link(0, 1, 7, 20);
        talk(x, 0, 1, 2);
        Check.yes("barred at 14 and 7, one above the trust", x.isBarred(0, 1));
        Check.equal("debt", 14, x.debt(0, 1));
        x.link(0, 1, 6, 20);
        Check.no("barred at 14 and 6, which is the trust", x.isBarred(0, 1));
        x.link(0, 1, 6, 19);
        Check.yes("barred at 14 and 6, one above the trust", x.isBarred(0, 1));
    }

    private static void promise20RateAlone() {
        RoamLedger x = new RoamLedger();
        for (int rate = 0; rate <= 100; rate += 25) {
            x.link(0, 1, rate, rate);
            Check.no("barred at a rate that is the trust", x.isBarred(0, 1));
            if (rate > 0) {
                x.link(0, 1, rate, rate - 1);
                Check.yes("barred at a rate one above the trust", x.isBarred(0, 1));
            }
        }
    }

    private static void promise20RateNothing() {
        RoamLedger x = withFiveNumbers();
        x.link(0, 1, 0, 0);
        talk(x, 0, 1, 200);
        Check.no("barred after minutes that cost nothing", x.isBarred(0, 1));
        x.link(0, 1, 1, 1);
        talk(x, 0, 1, 1);
        x.link(0, 1, 0, 1);
        Check.no("barred at a debt that is the trust, and no rate", x.isBarred(0, 1));
        x.link(0, 1, 0, 0);
        Check.yes("barred at a debt one above the trust, and no rate", x.isBarred(0, 1));
    }

    private static void promise20DebtBelowZero() {
        RoamLedger x = withFiveNumbers();
        x.link(1, 0, 50, 1000);
        talk(x, 1, 0, 1);
        x.link(0, 1, 50, 0);
        Check.no("barred at -50 and 50", x.isBarred(0, 1));
        x.link(0, 1, 51, 0);
        Check.yes("barred at -50 and 51", x.isBarred(0, 1));
        x.link(0, 1, 51, 1);
        Check.no("barred at -50 and 51, at the trust 1", x.isBarred(0, 1));
        x.settle(1, 0);
        Check.yes("barred at 0 and 51, at the trust 1", x.isBarred(0, 1));
    }

    private static void promise20TrustMadeLess() {
        RoamLedger x = withFiveNumbers();
        x.link(0, 1, 10, MOST_TRUST);
        talk(x, 0, 1, 5);
        x.link(0, 1, 10, 60);
        Check.no("barred at 50 and 10, at the trust 60", x.isBarred(0, 1));
        x.link(0, 1, 10, 59);
        Check.yes("barred at 50 and 10, at the trust 59", x.isBarred(0, 1));
        x.link(0, 1, 10, 0);
        Check.yes("barred at 50 and 10, at the trust 0", x.isBarred(0, 1));
        x.link(0, 1, 10, 60);
        Check.no("barred at 50 and 10, at the trust 60", x.isBarred(0, 1));
    }

    private static void promise20OneWayOnly() {
        RoamLedger x = withFiveNumbers();
        x.link(0, 1, 10, 10);
        x.link(1, 0, 10, 10);
        talk(x, 0, 1, 1);
        Check.yes("barred for who owes", x.isBarred(0, 1));
        Check.no("barred for who is owed", x.isBarred(1, 0));
        talk(x, 1, 0, 1);
        Check.no("barred when both owe nothing", x.isBarred(0, 1));
        talk(x, 1, 0, 1);
        Check.no("barred for who is owed", x.isBarred(0, 1));
        Check.yes("barred for who owes", x.isBarred(1, 0));
    }

    private static void promise21AsMuchBelowZero() {
        RoamLedger x = withFiveNumbers();
        for (int from = 0; from < 5; from++) {
            for (int to = 0; to < 5; to++) {
                if (from != to) {
                    x.link(from, to, 1 + from + 2 * to, MOST_TRUST);
                    talk(x, from, to, 1 + to);
                    x.unlink(from, to);
                }
            }
        }
        for (int from = 0; from < 5; from++) {
            for (int to = 0; to < 5; to++) {
                long due = from == to ? 0 : (1 + from + 2 * to) * (1 + to) - (1 + to + 2 * from) * (1 + from);
                Check.equal("debt of " + from + " to " + to, due, x.debt(from, to));
            }
        }
    }

    private static void promise21LessTheOtherWayRound() {
        RoamLedger x = withFiveNumbers();
        x.link(0, 1, 5, 100);
        x.link(1, 0, 3, 100);
        talk(x, 0, 1, 3);
        Check.equal("what it was to pay", 15, x.debt(0, 1));
        talk(x, 1, 0, 2);
        Check.equal("less the same the other way round", 9, x.debt(0, 1));
        Check.equal("paid", 9, x.settle(0, 1));
        Check.equal("less what it has paid", 0, x.debt(0, 1));
        talk(x, 1, 0, 1);
        Check.equal("below 0", -3, x.debt(0, 1));
        Check.equal("paid the other way round", 3, x.settle(1, 0));
        Check.equal("less what the other one has paid", 0, x.debt(0, 1));
        talk(x, 0, 1, 1);
        Check.equal("what it was to pay anew", 5, x.debt(0, 1));
    }

    private static void promise21OverEachLinkAlone() {
        RoamLedger x = withFiveNumbers();
        x.link(0, 1, 1, 100);
        x.link(1, 2, 2, 100);
        x.link(2, 3, 3, 100);
        x.link(3, 4, 4, 100);
        talk(x, 0, 4, 3);
        for (int from = 0; from < 5; from++) {
            for (int to = 0; to < 5; to++) {
                int due = to == from + 1 ? 3 * to : from == to + 1 ? -3 * from : 0;
                Check.equal("debt of " + from + " to " + to, due, x.debt(from, to));
            }
        }
    }

    private static void promise22OfEveryState() {
        RoamLedger x = withFiveNumbers();
        x.link(0, 1, 10, 20);
        talk(x, 0, 1, 1);
        Check.equal("of an ended call", 10, x.charged(0, 1));
        x.call(0, 1);
        x.pass(1);
        Check.equal("of an ended and a running call", 20, x.charged(0, 1));
        Check.equal("cut", 1, x.pass(1));
        Check.equal("of an ended and a cut call", 20, x.charged(0, 1));
        x.link(0, 1, 1, 100);
        x.call(0, 1);
        Check.equal("a call without a minute adds nothing", 20, x.charged(0, 1));
        x.pass(4);
        Check.equal("of all three", 24, x.charged(0, 1));
    }

    private static void promise22NotTheOtherWayRound() {
        RoamLedger x = withFiveNumbers();
        x.link(0, 1, 5, 100);
        x.link(1, 0, 7, 100);
        talk(x, 0, 1, 2);
        Check.equal("of the one", 10, x.charged(0, 1));
        Check.equal("of the other one", 0, x.charged(1, 0));
        talk(x, 1, 0, 3);
        Check.equal("of the one", 10, x.charged(0, 1));
        Check.equal("of the other one", 21, x.charged(1, 0));
        Check.equal("to itself", 0, x.charged(0, 0));
    }

    private static void promise22PaidOrNot() {
        RoamLedger x = withFiveNumbers();
        x.link(0, 1, 5, 100);
        talk(x, 0, 1, 2);
        x.settle(0, 1);
        Check.equal("paid", 10, x.charged(0, 1));
        talk(x, 0, 1, 1);
        Check.equal("paid and not paid", 15, x.charged(0, 1));
        x.unlink(0, 1);
        Check.equal("without the link", 15, x.charged(0, 1));
    }

    private static void promise22RateOfTheMinute() {
        RoamLedger x = withFiveNumbers();
        x.link(0, 1, 100, MOST_TRUST);
        x.call(0, 1);
        x.pass(1);
        x.link(0, 1, 1, MOST_TRUST);
        x.pass(1);
        x.link(0, 1, 0, MOST_TRUST);
        x.pass(1);
        x.link(0, 1, 20, MOST_TRUST);
        x.pass(2);
        x.link(0, 1, 99, MOST_TRUST);
        Check.equal("each minute by its rate", 141, x.charged(0, 1));
        Check.equal("debt by the same rates", 141, x.debt(0, 1));
    }

    private static void promise22OfEachWayOfACall() {
        RoamLedger x = withFiveNumbers();
        x.link(0, 2, 10, 20);
        x.link(0, 1, 6, 100);
        x.link(1, 2, 7, 100);
        x.call(0, 2);
        x.pass(5);
        Check.equal("moved", 1, x.moved(0));
        Check.equal("over the first way", 20, x.charged(0, 2));
        Check.equal("over the first link of the second way", 18, x.charged(0, 1));
        Check.equal("over the second link of the second way", 21, x.charged(1, 2));
    }

    private static void promise23SumsToNothing() {
        RoamLedger x = withFiveNumbers();
        for (int from = 0; from < 5; from++) {
            for (int to = 0; to < 5; to++) {
                if (from != to) {
                    x.link(from, to, 3 + 7 * from + to, MOST_TRUST);
                }
            }
        }
        for (int from = 0; from < 5; from++) {
            for (int to = 0; to < 5; to++) {
                if (from != to) {
                    talk(x, from, to, 1 + from);
                    sumsToNothing(x);
                }
            }
        }
        x.settle(4, 0);
        sumsToNothing(x);
        x.unlink(3, 0);
        sumsToNothing(x);
    }

    private static void sumsToNothing(RoamLedger x) {
        long sum = 0;
        for (int carrier = 0; carrier < 5; carrier++) {
            sum += x.position(carrier);
        }
        Check.equal("what all owe", 0, sum);
    }

    private static void promise23LessWhatItOwes() {
        RoamLedger x = withFiveNumbers();
        x.link(0, 2, 9, 100);
        x.link(1, 2, 4, 100);
        x.link(2, 3, 5, 100);
        x.link(2, 4, 1, 100);
        talk(x, 0, 2, 1);
        Check.equal("owed by one", 9, x.position(2));
        talk(x, 1, 2, 1);
        Check.equal("owed by two", 13, x.position(2));
        talk(x, 2, 3, 2);
        Check.equal("less what it owes one", 3, x.position(2));
        talk(x, 2, 4, 5);
        Check.equal("less what it owes two", -2, x.position(2));
        Check.equal("of the first one", -9, x.position(0));
        Check.equal("of the last one", 5, x.position(4));
    }

    private static void promise24DebtOfOne() {
        RoamLedger x = withFiveNumbers();
        x.link(0, 1, 1, 100);
        Check.fails("settle a debt of 0", Check.STATE, () -> x.settle(0, 1));
        talk(x, 0, 1, 1);
        Check.fails("settle a debt of -1", Check.STATE, () -> x.settle(1, 0));
        Check.equal("settle a debt of 1", 1, x.settle(0, 1));
        Check.fails("settle a debt of 0", Check.STATE, () -> x.settle(0, 1));
        Check.fails("settle a debt of 0", Check.STATE, () -> x.settle(1, 0));
    }

    private static void promise24OnlyWhoOwes() {
        RoamLedger x = withFiveNumbers();
        x.link(0, 1, 5, 100);
        talk(x, 0, 1, 4);
        Check.fails("settle by who is owed", Check.STATE, () -> x.settle(1, 0));
        for (int carrier = 0; carrier < 5; carrier++) {
            int same = carrier;
            Check.fails("settle with itself", Check.STATE, () -> x.settle(same, same));
        }
        Check.equal("debt", 20, x.debt(0, 1));
    }

    private static void promise24ThatDebtAlone() {
        RoamLedger x = withFiveNumbers();
        x.link(0, 1, 5, 100);
        x.link(0, 2, 6, 100);
        x.link(2, 1, 7, 100);
        talk(x, 0, 1, 1);
        talk(x, 0, 2, 1);
        talk(x, 2, 1, 1);
        Check.equal("settle", 5, x.settle(0, 1));
        Check.equal("debt of the same to another one", 6, x.debt(0, 2));
        Check.equal("debt of another one to the same", 7, x.debt(2, 1));
        Check.equal("position of who paid", -6, x.position(0));
        Check.equal("position of who is paid", 7, x.position(1));
    }

    private static void promise24AllOfIt() {
        RoamLedger x = withFiveNumbers();
        x.link(0, 1, 100, MOST_TRUST);
        for (int times = 0; times < 5; times++) {
            talk(x, 0, 1, 200);
        }
        Check.yes("barred at the highest trust", x.isBarred(0, 1));
        Check.equal("settle the highest trust", 100000, x.settle(0, 1));
        Check.equal("debt", 0, x.debt(0, 1));
        Check.no("barred then", x.isBarred(0, 1));
        talk(x, 0, 1, 1);
        Check.equal("settle one minute more", 100, x.settle(0, 1));
        Check.equal("charged", 100100, x.charged(0, 1));
    }
}
