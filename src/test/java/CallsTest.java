/** Promises 11 to 17: calls, and what a minute does to them. */
public final class CallsTest {
    private static final int LOW = Integer.MIN_VALUE;
    private static final int HIGH = Integer.MAX_VALUE;

    public static void main(String[] args) {
        promise11Call();
        promise11OneRunningCall();
        promise11Wrong();
        promise11MostCalls();
        promise12HangUp();
        promise13Pass();
        promise13Steps();
        promise13BundleAheadOfBalance();
        promise13ByRisingNumbers();
        promise13CutInTheMinute();
        promise14State();
        promise15Minutes();
        promise16Moved();
        promise16MovedAndCutAtOnce();
        promise16NotMovedToACheaperWay();
        promise17Way();
        promise17WayOfACutCall();
        Check.end();
    }

    /** A switch with two numbers for each carrier, 0 and 5 at carrier 0, and so on; all can pay for long. */
    private static RoamLedger withTenNumbers() {
        RoamLedger x = new RoamLedger();
        for (int number = 0; number < 10; number++) {
            x.number(number % 5, 10000, 0);
        }
        return x;
    }

    private static void promise11Call() {
        RoamLedger x = withTenNumbers();
        x.link(0, 1, 1, 100);
        x.link(1, 2, 1, 100);
        x.link(0, 2, 3, 100);
        Check.equal("the first call", 0, x.call(0, 2));
        Check.equal("its state", RoamLedger.RUNNING, x.state(0));
        Check.equal("its minutes", 0, x.minutes(0));
        Check.equal("its moves", 0, x.moved(0));
        Check.equal("the middle of its way", 1, x.way(0, 1));
        Check.equal("a call within a carrier", 1, x.call(3, 8));
        Check.equal("its way", 3, x.way(1, 0));
        Check.equal("debts before a minute", 0, x.debt(0, 1));
        Check.equal("balance before a minute", 10000, x.balance(0));
        x.carryOver(5, 1);
        Check.equal("a call from the new home", 2, x.call(5, 7));
        Check.equal("its way", 1, x.way(2, 0));
        Check.equal("its way", 2, x.way(2, 1));
    }

    private static void promise11OneRunningCall() {
        RoamLedger x = withTenNumbers();
        for (int number = 1; number < 10; number++) {
            while (x.home(number, 0) != 0) {
                x.carryOver(number, 0);
            }
        }
        x.call(0, 1);
        Check.fails("a caller that calls", Check.STATE, () -> x.call(0, 2));
        Check.fails("a caller that is called", Check.STATE, () -> x.call(1, 2));
        Check.fails("a called one that calls", Check.STATE, () -> x.call(2, 0));
        Check.fails("a called one that is called", Check.STATE, () -> x.call(2, 1));
        Check.fails("the same call again", Check.STATE, () -> x.call(0, 1));
        Check.fails("the same call the other way round", Check.STATE, () -> x.call(1, 0));
        Check.equal("a call of two others", 1, x.call(2, 3));
        x.hangUp(0);
        Check.equal("a call after hanging up", 2, x.call(1, 0));
        x.hangUp(1);
        Check.equal("a call after hanging up", 3, x.call(4, 3));
    }

    private static void promise11Wrong() {
        RoamLedger x = withTenNumbers();
        for (int number : new int[] {LOW, -1, 10, 20, HIGH}) {
            Check.fails("call of " + number, Check.INDEX, () -> x.call(0, number));
            Check.fails("call by " + number, Check.INDEX, () -> x.call(number, 0));
            Check.fails("call of " + number + " by itself", Check.INDEX, () -> x.call(number, number));
        }
        Check.fails("call of itself", Check.ARGUMENT, () -> x.call(0, 0));
        Check.fails("call without a way", Check.STATE, () -> x.call(0, 1));
        x.link(1, 0, 1, 100);
        Check.fails("call with a way the other way round", Check.STATE, () -> x.call(0, 1));
        x.link(0, 1, 5, 4);
        Check.fails("call over a barred link", Check.STATE, () -> x.call(0, 1));
        Check.fails("state of a call that threw", Check.INDEX, () -> x.state(0));
        Check.equal("the first call", 0, x.call(0, 5));
        Check.fails("call of itself while it calls", Check.ARGUMENT, () -> x.call(0, 0));
    }

    private static void promise11MostCalls() {
        RoamLedger x = withTenNumbers();
        for (int call = 0; call < 60; call++) {
            Check.equal("call", call, x.call(call % 5, call % 5 + 5));
            x.hangUp(call);
        }
        Check.fails("the 61st call", Check.STATE, () -> x.call(0, 5));
        Check.fails("the 61st call, of itself", Check.ARGUMENT, () -> x.call(0, 0));
        Check.fails("the 61st call, of none", Check.INDEX, () -> x.call(0, 10));
        Check.fails("state of the 61st call", Check.INDEX, () -> x.state(60));
        Check.equal("state of the 60th call", RoamLedger.ENDED, x.state(59));
        Check.equal("minutes with 60 calls", 0, x.pass(1));
    }

    private static void promise12HangUp() {
        RoamLedger x = withTenNumbers();
        for (int call : new int[] {LOW, -1, 0, 60, HIGH}) {
            Check.fails("hangUp of " + call, Check.INDEX, () -> x.hangUp(call));
        }
        x.call(0, 5);
        Check.equal("hangUp at once", 0, x.hangUp(0));
        Check.fails("hangUp again", Check.STATE, () -> x.hangUp(0));
        x.call(0, 5);
        x.pass(7);
        Check.equal("hangUp", 7, x.hangUp(1));
        Check.equal("state", RoamLedger.ENDED, x.state(1));
        long balance = x.balance(0);
        x.pass(3);
        Check.equal("minutes after hanging up", 7, x.minutes(1));
        Check.equal("balance after hanging up", balance, x.balance(0));
        x.number(0, 0, 0);
        x.call(10, 0);
        Check.equal("a call that cannot pay", 1, x.pass(1));
        Check.fails("hangUp of a cut call", Check.STATE, () -> x.hangUp(2));
        Check.equal("state of a cut call", RoamLedger.CUT, x.state(2));
    }

    private static void promise13Pass() {
        RoamLedger x = withTenNumbers();
        for (int minutes : new int[] {LOW, -1, 0, 201, HIGH}) {
            Check.fails("pass of " + minutes, Check.ARGUMENT, () -> x.pass(minutes));
        }
        x.call(0, 5);
        Check.fails("pass of 201", Check.ARGUMENT, () -> x.pass(201));
        Check.equal("minutes after what threw", 0, x.minutes(0));
        Check.equal("pass of 1", 0, x.pass(1));
        Check.equal("pass of 200", 0, x.pass(200));
        Check.equal("minutes", 201, x.minutes(0));
        x.number(1, 30, 0);
        x.number(2, 50, 0);
        x.number(3, 40, 0);
        x.call(10, 1);
        x.call(11, 2);
        x.call(12, 3);
        Check.equal("pass that cuts none", 0, x.pass(3));
        Check.equal("pass that cuts two", 2, x.pass(2));
        Check.equal("pass that cuts one", 1, x.pass(100));
        Check.equal("pass that cuts none", 0, x.pass(100));
        Check.equal("minutes of a cut call", 3, x.minutes(1));
        Check.equal("minutes of a cut call", 5, x.minutes(2));
        Check.equal("minutes of a cut call", 4, x.minutes(3));
    }

    private static void promise13Steps() {
        for (int step = 1; step <= 10; step++) {
            RoamLedger x = new RoamLedger();
            x.tariff(0, step, 7);
            x.number(0, 21, 0);
            x.number(0, 0, 0);
            x.call(0, 1);
            for (int minute = 0; minute < 3 * step; minute++) {
                Check.equal("pass", 0, x.pass(1));
                Check.equal("balance at step " + step, 21 - 7 * (minute / step + 1), x.balance(0));
            }
            Check.equal("pass with an empty balance", 1, x.pass(1));
            Check.equal("minutes", 3 * step, x.minutes(0));
        }
    }

    private static void promise13BundleAheadOfBalance() {
        RoamLedger x = new RoamLedger();
        x.tariff(0, 4, 100);
        x.number(0, 250, 7);
        x.number(0, 0, 0);
        x.call(0, 1);
        x.pass(1);
        Check.equal("bundle with as many minutes", 3, x.bundle(0));
        Check.equal("balance", 250, x.balance(0));
        x.pass(4);
        Check.equal("bundle with fewer minutes", 3, x.bundle(0));
        Check.equal("balance", 150, x.balance(0));
        x.topUp(0, 0, 1);
        x.pass(4);
        Check.equal("bundle with just as many minutes", 0, x.bundle(0));
        Check.equal("balance", 150, x.balance(0));
        x.pass(4);
        Check.equal("balance", 50, x.balance(0));
        x.topUp(0, 50, 0);
        x.pass(4);
        Check.equal("balance of just the price", 0, x.balance(0));
        Check.equal("minutes of the last step", 0, x.pass(3));
        x.topUp(0, 99, 3);
        Check.equal("bundle and balance too small", 1, x.pass(1));
        Check.equal("bundle after the cut", 3, x.bundle(0));
        Check.equal("balance after the cut", 99, x.balance(0));
        Check.equal("minutes after the cut", 20, x.minutes(0));
    }

    /** Calls 0 and 1 pay over one link that has trust for one minute more: the lower number gets it. */
    private static void promise13ByRisingNumbers() {
        RoamLedger x = withTenNumbers();
        x.link(0, 1, 10, 30);
        x.call(5, 6);
        x.call(0, 1);
        Check.equal("the first minute", 0, x.pass(1));
        Check.equal("the second minute", 1, x.pass(1));
        Check.equal("state of call 0", RoamLedger.RUNNING, x.state(0));
        Check.equal("state of call 1", RoamLedger.CUT, x.state(1));
        Check.equal("debt", 30, x.debt(0, 1));
        // A call the other way round lowers the debt after call 0 of its minute was looked at.
        x.link(1, 0, 10, 100);
        x.call(1, 0);
        Check.equal("the third minute", 1, x.pass(1));
        Check.equal("state of call 0", RoamLedger.CUT, x.state(0));
        Check.equal("state of call 2", RoamLedger.RUNNING, x.state(2));
        Check.equal("debt", 20, x.debt(0, 1));
    }

    /** A call that is cut at the way pays no step; one that is cut at the step pays no rates. */
    private static void promise13CutInTheMinute() {
        RoamLedger x = new RoamLedger();
        x.link(0, 1, 10, 10);
        x.number(0, 100, 0);
        x.number(1, 0, 0);
        x.number(0, 5, 0);
        x.call(0, 1);
        x.pass(1);
        Check.equal("cut at the way", 1, x.pass(1));
        Check.equal("balance", 90, x.balance(0));
        Check.equal("minutes", 1, x.minutes(0));
        Check.equal("moved", 0, x.moved(0));
        x.link(0, 1, 10, 100);
        x.call(2, 1);
        Check.equal("cut at the step", 1, x.pass(200));
        Check.equal("minutes", 0, x.minutes(1));
        Check.equal("balance", 5, x.balance(2));
        Check.equal("debt", 10, x.debt(0, 1));
        Check.equal("charged", 10, x.charged(0, 1));
    }

    private static void promise14State() {
        RoamLedger x = withTenNumbers();
        for (int call : new int[] {LOW, -1, 0, 60, HIGH}) {
            Check.fails("state of " + call, Check.INDEX, () -> x.state(call));
        }
        x.link(0, 1, 1, 0);
        x.link(2, 3, 1, 1);
        x.call(0, 5);
        x.call(2, 3);
        x.call(4, 9);
        x.hangUp(2);
        x.pass(2);
        Check.equal("a running call", RoamLedger.RUNNING, x.state(0));
        Check.equal("a cut call", RoamLedger.CUT, x.state(1));
        Check.equal("an ended call", RoamLedger.ENDED, x.state(2));
        Check.fails("state of the next call", Check.INDEX, () -> x.state(3));
        x.settle(2, 3);
        x.pass(1);
        Check.equal("a cut call stays cut", RoamLedger.CUT, x.state(1));
        Check.equal("minutes of a cut call", 1, x.minutes(1));
    }

    private static void promise15Minutes() {
        RoamLedger x = withTenNumbers();
        for (int call : new int[] {LOW, -1, 0, 60, HIGH}) {
            Check.fails("minutes of " + call, Check.INDEX, () -> x.minutes(call));
        }
        x.call(0, 5);
        Check.equal("minutes of a new call", 0, x.minutes(0));
        x.pass(2);
        x.call(1, 6);
        x.pass(3);
        Check.equal("minutes of call 0", 5, x.minutes(0));
        Check.equal("minutes of call 1", 3, x.minutes(1));
        x.hangUp(0);
        x.pass(4);
        Check.equal("minutes of an ended call", 5, x.minutes(0));
        Check.equal("minutes of call 1", 7, x.minutes(1));
    }

    private static void promise16Moved() {
        RoamLedger x = withTenNumbers();
        for (int call : new int[] {LOW, -1, 0, 60, HIGH}) {
            Check.fails("moved of " + call, Check.INDEX, () -> x.moved(call));
        }
        x.link(0, 4, 10, 20);
        x.link(0, 1, 10, 30);
        x.link(1, 4, 10, 10000);
        x.link(0, 2, 20, 10000);
        x.link(2, 4, 20, 10000);
        x.call(0, 4);
        x.pass(2);
        Check.equal("moved while its way is open", 0, x.moved(0));
        x.pass(1);
        Check.equal("moved once", 1, x.moved(0));
        Check.equal("its way then", 1, x.way(0, 1));
        Check.equal("its way then", 4, x.way(0, 2));
        x.pass(2);
        Check.equal("not moved while its way is open", 1, x.moved(0));
        x.settle(0, 4);
        x.pass(1);
        Check.equal("moved twice", 2, x.moved(0));
        Check.equal("back to the first way", 4, x.way(0, 1));
        Check.fails("nothing of the longer way is left", Check.INDEX, () -> x.way(0, 2));
        x.unlink(0, 4);
        x.pass(1);
        Check.equal("moved off a link that is no more", 3, x.moved(0));
        Check.equal("its way then", 2, x.way(0, 1));
        x.unlink(2, 4);
        x.settle(0, 1);
        x.pass(1);
        Check.equal("moved off the second link", 4, x.moved(0));
        Check.equal("minutes", 8, x.minutes(0));
        x.hangUp(0);
        Check.equal("moved of an ended call", 4, x.moved(0));
        Check.equal("charged over the first link", 30, x.charged(0, 4));
        Check.equal("charged over the second link", 40, x.charged(0, 1));
        Check.equal("charged over the third link", 20, x.charged(0, 2));
        Check.equal("charged over the last link", 40, x.charged(1, 4));
    }

    private static void promise16MovedAndCutAtOnce() {
        RoamLedger x = new RoamLedger();
        x.number(0, 10, 0);
        x.number(2, 0, 0);
        x.link(0, 2, 5, 5);
        x.link(0, 1, 5, 5);
        x.link(1, 2, 5, 5);
        x.call(0, 1);
        x.pass(1);
        Check.equal("moved, and cut at the step", 1, x.pass(1));
        Check.equal("state", RoamLedger.CUT, x.state(0));
        Check.equal("moved", 1, x.moved(0));
        Check.equal("the way that it was moved to", 1, x.way(0, 1));
        Check.equal("minutes", 1, x.minutes(0));
        Check.equal("debt over the new way", 0, x.debt(0, 1));
    }

    private static void promise16NotMovedToACheaperWay() {
        RoamLedger x = withTenNumbers();
        x.link(0, 4, 10, 1000);
        x.call(0, 4);
        x.link(0, 1, 1, 1000);
        x.link(1, 4, 1, 1000);
        x.pass(3);
        Check.equal("moved", 0, x.moved(0));
        Check.equal("its way", 4, x.way(0, 1));
        x.unlink(0, 4);
        x.link(0, 4, 20, 1000);
        x.pass(1);
        Check.equal("moved when its link came back", 0, x.moved(0));
        Check.equal("debt by the rate of each minute", 50, x.debt(0, 4));
    }

    private static void promise17Way() {
        RoamLedger x = withTenNumbers();
        for (int call : new int[] {LOW, -1, 0, 60, HIGH}) {
            Check.fails("way of " + call, Check.INDEX, () -> x.way(call, 0));
        }
        x.link(3, 1, 1, 100);
        x.link(1, 4, 1, 100);
        x.link(4, 0, 1, 100);
        x.link(0, 2, 1, 100);
        x.call(3, 2);
        int[] due = {3, 1, 4, 0, 2};
        for (int place = 0; place < due.length; place++) {
            Check.equal("way", due[place], x.way(0, place));
        }
        for (int place : new int[] {LOW, -1, 5, HIGH}) {
            Check.fails("way at " + place, Check.INDEX, () -> x.way(0, place));
        }
        x.call(8, 0);
        Check.equal("way of four", 0, x.way(1, 3));
        Check.fails("way of four", Check.INDEX, () -> x.way(1, 4));
        x.call(9, 4);
        Check.equal("way of one", 4, x.way(2, 0));
        Check.fails("way of one", Check.INDEX, () -> x.way(2, 1));
        x.hangUp(0);
        x.unlink(3, 1);
        x.link(3, 2, 0, 0);
        x.pass(1);
        Check.equal("way of an ended call", 1, x.way(0, 1));
        Check.equal("way of an ended call", 2, x.way(0, 4));
    }

    private static void promise17WayOfACutCall() {
        RoamLedger x = withTenNumbers();
        x.link(0, 1, 1, 100);
        x.link(1, 2, 1, 100);
        x.call(0, 2);
        x.pass(1);
        x.unlink(1, 2);
        Check.equal("cut", 1, x.pass(1));
        Check.equal("moved", 0, x.moved(0));
        for (int place = 0; place < 3; place++) {
            Check.equal("way of a cut call", place, x.way(0, place));
        }
        Check.fails("way of a cut call", Check.INDEX, () -> x.way(0, 3));
        x.link(0, 2, 1, 100);
        x.pass(1);
        Check.equal("state of a cut call", RoamLedger.CUT, x.state(0));
        Check.equal("way of a cut call", 1, x.way(0, 1));
        Check.equal("debt", 1, x.debt(0, 1));
    }
}
