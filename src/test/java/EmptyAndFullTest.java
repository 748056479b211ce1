/** A switch that holds nothing, and one that holds all that it can: 20 numbers, 60 calls, 10 homes in a chain. */
public final class EmptyAndFullTest {
    public static void main(String[] args) {
        promise01NoNumbers();
        promise01NoCalls();
        promise01NoLinks();
        promise01NoDebts();
        promise01FirstTariff();
        promise01MinutesOfNothing();
        promise05NumberedFromZero();
        promise05TwentyNumbers();
        promise05RefusedTakesNoNumber();
        promise06TenHomes();
        promise06OneChainDoesNotFillAnother();
        promise07FirstOneFirst();
        promise11NumberedFromZero();
        promise11SixtyCalls();
        promise11RefusedTakesNoNumber();
        promise11SixtyCutCalls();
        promise11TenCallsAtOnce();
        promise11SixtyCallsAllTold();
        fullSwitchGoesOn();
        Check.end();
    }

    /** A switch with so many numbers, number n at carrier n % 5, with a balance of 1000 + n. */
    private static RoamLedger withNumbers(int count) {
        RoamLedger x = new RoamLedger();
        for (int number = 0; number < count; number++) {
            x.number(number % 5, 1000 + number, 0);
        }
        return x;
    }

    /** 20 numbers and 60 ended calls; call c was between the numbers c % 5 and c % 5 + 5, at the carrier c % 5. */
    private static RoamLedger withSixtyCalls() {
        RoamLedger x = withNumbers(20);
        for (int call = 0; call < 60; call++) {
            x.call(call % 5, call % 5 + 5);
            x.hangUp(call);
        }
        return x;
    }

    private static void promise01NoNumbers() {
        RoamLedger x = new RoamLedger();
        for (int number = -1; number <= 20; number++) {
            int one = number;
            Check.fails("home of " + one, Check.INDEX, () -> x.home(one, 0));
            Check.fails("balance of " + one, Check.INDEX, () -> x.balance(one));
            Check.fails("bundle of " + one, Check.INDEX, () -> x.bundle(one));
            Check.fails("topUp of " + one, Check.INDEX, () -> x.topUp(one, 0, 0));
            Check.fails("carryOver of " + one, Check.INDEX, () -> x.carryOver(one, 0));
            Check.fails("call by " + one, Check.INDEX, () -> x.call(one, 0));
            Check.fails("call of " + one, Check.INDEX, () -> x.call(0, one));
        }
    }

    private static void promise01NoCalls() {
        RoamLedger x = withNumbers(20);
        for (int call = -1; call <= 60; call++) {
            int one = call;
            Check.fails("hangUp of " + one, Check.INDEX, () -> x.hangUp(one));
            Check.fails("state of " + one, Check.INDEX, () -> x.state(one));
            Check.fails("minutes of " + one, Check.INDEX, () -> x.minutes(one));
            Check.fails("moved of " + one, Check.INDEX, () -> x.moved(one));
            Check.fails("way of " + one, Check.INDEX, () -> x.way(one, 0));
        }
    }

    private static void promise01NoLinks() {
        RoamLedger x = new RoamLedger();
        for (int from = 0; from < 5; from++) {
            for (int to = 0; to < 5; to++) {
                int one = from;
                int another = to;
                Check.yes("isBarred", x.isBarred(from, to));
                Check.fails("unlink", Check.STATE, () -> x.unlink(one, another));
                Check.equal("cost", from == to ? 0 : RoamLedger.NONE, x.cost(from, to));
                if (from == to) {
                    Check.equal("best to itself", from, x.best(from, to, 0));
                    Check.fails("best to itself", Check.INDEX, () -> x.best(one, another, 1));
                } else {
                    Check.fails("best", Check.INDEX, () -> x.best(one, another, 0));
                }
            }
        }
    }

    private static void promise01NoDebts() {
        RoamLedger x = new RoamLedger();
        for (int from = 0; from < 5; from++) {
            Check.equal("position", 0, x.position(from));
            for (int to = 0; to < 5; to++) {
                int one = from;
                int another = to;
                Check.equal("debt", 0, x.debt(from, to));
                Check.equal("charged", 0, x.charged(from, to));
                Check.fails("settle", Check.STATE, () -> x.settle(one, another));
            }
        }
    }

    private static void promise01FirstTariff() {
        for (int carrier = 0; carrier < 5; carrier++) {
            RoamLedger x = new RoamLedger();
            x.number(carrier, 100, 0);
            x.number(carrier, 0, 0);
            x.call(0, 1);
            x.pass(1);
            Check.equal("balance after one minute", 90, x.balance(0));
            x.pass(1);
            Check.equal("balance after two minutes", 80, x.balance(0));
            Check.equal("the first price", 10, x.tariff(carrier, 1, 1));
        }
    }

    private static void promise01MinutesOfNothing() {
        RoamLedger x = new RoamLedger();
        Check.equal("pass without calls", 0, x.pass(1));
        Check.equal("pass without calls", 0, x.pass(200));
        Check.equal("the first number after that", 0, x.number(0, 0, 0));
        Check.equal("pass with a number without calls", 0, x.pass(200));
    }

    private static void promise05NumberedFromZero() {
        RoamLedger x = new RoamLedger();
        for (int number = 0; number < 20; number++) {
            int next = number;
            Check.fails("balance of the next number", Check.INDEX, () -> x.balance(next));
            Check.equal("number", number, x.number(0, 0, 0));
            Check.equal("balance of it", 0, x.balance(number));
        }
    }

    private static void promise05TwentyNumbers() {
        RoamLedger x = withNumbers(19);
        Check.equal("the 20th number", 19, x.number(4, 10000, 1000));
        Check.fails("the 21st number", Check.STATE, () -> x.number(4, 10000, 1000));
        Check.fails("the 21st number, again", Check.STATE, () -> x.number(0, 0, 0));
        Check.fails("its balance", Check.INDEX, () -> x.balance(20));
        for (int number = 0; number < 19; number++) {
            Check.equal("balance", 1000 + number, x.balance(number));
            Check.equal("home", number % 5, x.home(number, 0));
        }
        Check.equal("balance of the 20th number", 10000, x.balance(19));
        Check.equal("bundle of the 20th number", 1000, x.bundle(19));
    }

    private static void promise05RefusedTakesNoNumber() {
        RoamLedger x = new RoamLedger();
        Check.fails("number at no carrier", Check.INDEX, () -> x.number(5, 0, 0));
        Check.equal("the first number", 0, x.number(0, 0, 0));
        Check.fails("number with a balance too large", Check.ARGUMENT, () -> x.number(0, 10001, 0));
        Check.fails("number with a bundle too large", Check.ARGUMENT, () -> x.number(0, 0, 1001));
        Check.equal("the next number", 1, x.number(0, 0, 0));
    }

    private static void promise06TenHomes() {
        RoamLedger x = withNumbers(1);
        for (int homes = 2; homes <= 10; homes++) {
            Check.equal("homes", homes, x.carryOver(0, (homes - 1) % 2));
        }
        for (int carrier : new int[] {0, 2, 3, 4}) {
            Check.fails("the 11th home, " + carrier, Check.STATE, () -> x.carryOver(0, carrier));
        }
        for (int back = 0; back < 10; back++) {
            Check.equal("home " + back + " back", (9 - back) % 2, x.home(0, back));
        }
        Check.fails("home ahead of the first one", Check.INDEX, () -> x.home(0, 10));
    }

    private static void promise06OneChainDoesNotFillAnother() {
        RoamLedger x = withNumbers(20);
        for (int number = 0; number < 20; number++) {
            for (int homes = 2; homes <= 10; homes++) {
                Check.equal("homes", homes, x.carryOver(number, (number + homes - 1) % 5));
            }
        }
        for (int number = 0; number < 20; number++) {
            int one = number;
            Check.fails("the 11th home of " + one, Check.STATE, () -> x.carryOver(one, one % 5));
            Check.equal("the first home of " + one, one % 5, x.home(one, 9));
            Check.equal("the last home of " + one, (one + 9) % 5, x.home(one, 0));
        }
    }

    private static void promise07FirstOneFirst() {
        RoamLedger x = withNumbers(1);
        x.carryOver(0, 3);
        x.carryOver(0, 0);
        x.carryOver(0, 4);
        Check.equal("its home", 4, x.home(0, 0));
        Check.equal("the one ahead of that", 0, x.home(0, 1));
        Check.equal("the one ahead of that", 3, x.home(0, 2));
        Check.equal("the first one", 0, x.home(0, 3));
        Check.fails("what was ahead of the first one", Check.INDEX, () -> x.home(0, 4));
    }

    private static void promise11NumberedFromZero() {
        RoamLedger x = withNumbers(20);
        for (int call = 0; call < 60; call++) {
            int next = call;
            Check.fails("state of the next call", Check.INDEX, () -> x.state(next));
            Check.equal("call", call, x.call(call % 5, call % 5 + 5));
            Check.equal("state of it", RoamLedger.RUNNING, x.state(call));
            x.hangUp(call);
        }
    }

    private static void promise11SixtyCalls() {
        RoamLedger x = withSixtyCalls();
        for (int number = 0; number < 5; number++) {
            int caller = number;
            Check.fails("the 61st call, by " + caller, Check.STATE, () -> x.call(caller, caller + 5));
            Check.fails("the 61st call, of " + caller, Check.STATE, () -> x.call(caller + 15, caller));
        }
        Check.fails("state of the 61st call", Check.INDEX, () -> x.state(60));
        Check.fails("minutes of the 61st call", Check.INDEX, () -> x.minutes(60));
        Check.fails("moved of the 61st call", Check.INDEX, () -> x.moved(60));
        Check.fails("way of the 61st call", Check.INDEX, () -> x.way(60, 0));
        Check.fails("hangUp of the 61st call", Check.INDEX, () -> x.hangUp(60));
    }

    private static void promise11RefusedTakesNoNumber() {
        RoamLedger x = withNumbers(10);
        Check.fails("call of no number", Check.INDEX, () -> x.call(0, 10));
        Check.fails("call of itself", Check.ARGUMENT, () -> x.call(0, 0));
        Check.fails("call without a way", Check.STATE, () -> x.call(0, 1));
        Check.equal("the first call", 0, x.call(0, 5));
        Check.fails("call of a number that has a call", Check.STATE, () -> x.call(5, 0));
        Check.equal("the next call", 1, x.call(1, 6));
    }

    /** A cut call stays in the list, so the list is full with 60 of them. */
    private static void promise11SixtyCutCalls() {
        RoamLedger x = new RoamLedger();
        for (int number = 0; number < 20; number++) {
            x.number(0, 9, 0);
        }
        for (int times = 0; times < 6; times++) {
            for (int caller = 0; caller < 10; caller++) {
                Check.equal("call", 10 * times + caller, x.call(caller, caller + 10));
            }
            Check.equal("all ten are cut", 10, x.pass(1));
        }
        Check.fails("the 61st call", Check.STATE, () -> x.call(0, 10));
        Check.equal("state of the first call", RoamLedger.CUT, x.state(0));
        Check.equal("state of the 60th call", RoamLedger.CUT, x.state(59));
    }

    /** With 20 numbers ten calls can run at once; each number is in one of them then. */
    private static void promise11TenCallsAtOnce() {
        RoamLedger x = new RoamLedger();
        for (int number = 0; number < 20; number++) {
            x.number(0, 10 * number, 0);
        }
        for (int call = 0; call < 10; call++) {
            Check.equal("call", call, x.call(19 - call, call));
        }
        for (int number = 1; number < 20; number++) {
            int one = number;
            Check.fails("another call of " + one, Check.STATE, () -> x.call(0, one));
        }
        Check.equal("none is cut", 0, x.pass(10));
        Check.equal("all are cut", 10, x.pass(10));
        for (int call = 0; call < 10; call++) {
            Check.equal("minutes", 19 - call, x.minutes(call));
            Check.equal("state", RoamLedger.CUT, x.state(call));
        }
        x.topUp(0, 10, 0);
        Check.equal("a call after that", 10, x.call(0, 19));
    }

    /** Each call of a full list keeps what is its own: minutes, state, way and what it has charged. */
    private static void promise11SixtyCallsAllTold() {
        RoamLedger x = new RoamLedger();
        x.link(0, 1, 1, 100000);
        x.link(1, 2, 2, 100000);
        x.number(0, 10000, 0);
        x.number(1, 0, 0);
        x.number(2, 0, 0);
        int all = 0;
        for (int call = 0; call < 60; call++) {
            Check.equal("call", call, x.call(0, 1 + call % 2));
            x.pass(1 + call % 7);
            Check.equal("hangUp", 1 + call % 7, x.hangUp(call));
            all += 1 + call % 7;
        }
        int far = 0;
        for (int call = 0; call < 60; call++) {
            Check.equal("minutes of " + call, 1 + call % 7, x.minutes(call));
            Check.equal("state of " + call, RoamLedger.ENDED, x.state(call));
            Check.equal("last carrier of " + call, 1 + call % 2, x.way(call, 1 + call % 2));
            far += call % 2 == 1 ? 1 + call % 7 : 0;
        }
        Check.equal("charged over the first link", all, x.charged(0, 1));
        Check.equal("charged over the second link", 2 * far, x.charged(1, 2));
        Check.equal("debt over the first link", all, x.debt(0, 1));
        Check.equal("debt over the second link", 2 * far, x.debt(1, 2));
    }

    /** All but what would need more room is done by a full switch. */
    private static void fullSwitchGoesOn() {
        RoamLedger x = withNumbers(20);
        for (int homes = 2; homes <= 10; homes++) {
            x.carryOver(19, (3 + homes) % 5);
        }
        for (int call = 0; call < 59; call++) {
            x.call(0, 5);
            x.hangUp(call);
        }
        Check.equal("the 60th call", 59, x.call(5, 10));
        Check.equal("pass", 0, x.pass(3));
        Check.equal("minutes", 3, x.minutes(59));
        Check.equal("balance", 1005 - 30, x.balance(5));
        Check.equal("topUp", 1029, x.topUp(19, 10, 5));
        Check.equal("tariff", 10, x.tariff(0, 2, 3));
        Check.no("link", x.link(0, 1, 1, 1));
        Check.equal("cost", 1, x.cost(0, 1));
        Check.equal("unlink", 1, x.unlink(0, 1));
        Check.equal("carryOver of another number", 2, x.carryOver(18, 0));
        Check.equal("hangUp", 3, x.hangUp(59));
        Check.fails("a call after that", Check.STATE, () -> x.call(5, 10));
    }
}
