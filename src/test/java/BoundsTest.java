/**
 * The range of each parameter, promise by promise: its last values are taken, and do what they say, and the
 * first ones beyond it, on either side, are refused; so are the ends of what an int holds.
 */
public final class BoundsTest {
    private static final int MOST_TRUST = 100000;

    public static void main(String[] args) {
        promise02Carrier();
        promise02Step();
        promise02Price();
        promise03From();
        promise03To();
        promise03BothTheSame();
        promise03Rate();
        promise03Trust();
        promise04From();
        promise04To();
        promise05Home();
        promise05Balance();
        promise05Bundle();
        promise06Number();
        promise06Carrier();
        promise07Number();
        promise07Back();
        promise08Number();
        promise08Balance();
        promise08Bundle();
        promise09Number();
        promise10Number();
        promise11Caller();
        promise11Called();
        promise12Call();
        promise13Minutes();
        promise14Call();
        promise15Call();
        promise16Call();
        promise17Call();
        promise17Place();
        promise18Carriers();
        promise19Carriers();
        promise19Place();
        promise20Carriers();
        promise21Carriers();
        promise22Carriers();
        promise23Carrier();
        promise24Carriers();
        Check.end();
    }

    /** A call with one of its parameters left open; it begins with a switch of its own, or leaves one as it was. */
    private interface Open {
        void with(int value);
    }

    /** The two lowest and the two highest values are taken; the next ones, and those far beyond, are refused. */
    private static void range(String what, int least, int most, Class<? extends RuntimeException> refusal,
            Open call) {
        int[] inside = {least, Math.min(least + 1, most), Math.max(most - 1, least), most};
        for (int value : inside) {
            Check.taken(what + " " + value, () -> call.with(value));
        }
        for (int value : new int[] {Integer.MIN_VALUE, least - 1, most + 1, Integer.MAX_VALUE}) {
            Check.fails(what + " " + value, refusal, () -> call.with(value));
        }
    }

    private static void carriers(String what, Open call) {
        range(what, 0, 4, Check.INDEX, call);
    }

    /** A carrier that is not this one; any, if this one is none. */
    private static int other(int carrier) {
        return carrier == 2 ? 3 : 2;
    }

    /** A switch with so many numbers at carrier 0, all with a balance of 10000 and no bundle. */
    private static RoamLedger withNumbers(int count) {
        RoamLedger x = new RoamLedger();
        for (int number = 0; number < count; number++) {
            x.number(0, 10000, 0);
        }
        return x;
    }

    /** A switch with so many calls between the numbers 0 and 1, the last one running and the others ended. */
    private static RoamLedger withCalls(int count) {
        RoamLedger x = withNumbers(2);
        for (int call = 0; call < count; call++) {
            x.call(0, 1);
            if (call < count - 1) {
                x.hangUp(call);
            }
        }
        return x;
    }

    /** A switch with a link from each carrier to each other one, at the rate 1 and the highest trust. */
    private static RoamLedger withAllLinks() {
        RoamLedger x = new RoamLedger();
        for (int from = 0; from < 5; from++) {
            for (int to = 0; to < 5; to++) {
                if (from != to) {
                    x.link(from, to, 1, MOST_TRUST);
                }
            }
        }
        return x;
    }

    /** A switch in which each carrier owes each other one that is higher 1. */
    private static RoamLedger withDebts() {
        RoamLedger x = withAllLinks();
        for (int carrier = 0; carrier < 5; carrier++) {
            x.number(carrier, 100, 0);
        }
        int calls = 0;
        for (int from = 0; from < 5; from++) {
            for (int to = from + 1; to < 5; to++) {
                x.call(from, to);
                x.pass(1);
                x.hangUp(calls);
                calls++;
            }
        }
        return x;
    }

    /** A switch with the numbers 0 at carrier 0 and 1 at so high a carrier that the way of call 0 has so many. */
    private static RoamLedger withWayOf(int carriers) {
        RoamLedger x = new RoamLedger();
        for (int from = 0; from + 1 < carriers; from++) {
            x.link(from, from + 1, 1, MOST_TRUST);
        }
        x.number(0, 100, 0);
        x.number(carriers - 1, 100, 0);
        x.call(0, 1);
        return x;
    }

    private static void promise02Carrier() {
        carriers("tariff of carrier", carrier -> {
            RoamLedger x = new RoamLedger();
            x.tariff(carrier, 2, 3);
            Check.equal("price of " + carrier, 3, x.tariff(carrier, 1, 1));
        });
    }

    private static void promise02Step() {
        range("tariff with step", 1, 10, Check.ARGUMENT, step -> {
            RoamLedger x = withNumbers(2);
            x.tariff(0, step, 7);
            x.call(0, 1);
            x.pass(step);
            Check.equal("one step of " + step, 9993, x.balance(0));
            x.pass(1);
            Check.equal("the next step of " + step, 9986, x.balance(0));
        });
    }

    private static void promise02Price() {
        range("tariff with price", 0, 1000, Check.ARGUMENT, price -> {
            RoamLedger x = withNumbers(2);
            x.tariff(0, 1, price);
            x.call(0, 1);
            x.pass(1);
            Check.equal("a step at " + price, 10000 - price, x.balance(0));
            Check.equal("the price before", price, x.tariff(0, 1, 1));
        });
    }

    private static void promise03From() {
        carriers("link from", from -> {
            RoamLedger x = new RoamLedger();
            Check.no("link from " + from, x.link(from, other(from), 3, 3));
            Check.equal("cost from " + from, 3, x.cost(from, other(from)));
        });
    }

    private static void promise03To() {
        carriers("link to", to -> {
            RoamLedger x = new RoamLedger();
            Check.no("link to " + to, x.link(other(to), to, 3, 3));
            Check.equal("cost to " + to, 3, x.cost(other(to), to));
        });
    }

    private static void promise03BothTheSame() {
        for (int from = 0; from < 5; from++) {
            for (int to = 0; to < 5; to++) {
                int one = from;
                int another = to;
                Runnable call = () -> new RoamLedger().link(one, another, 0, 0);
                if (from == to) {
                    Check.fails("link of " + from + " to itself", Check.ARGUMENT, call);
                } else {
                    Check.taken("link from " + from + " to " + to, call);
                }
            }
        }
    }

    private static void promise03Rate() {
        range("link with rate", 0, 100, Check.ARGUMENT, rate -> {
            RoamLedger x = new RoamLedger();
            x.link(0, 1, rate, MOST_TRUST);
            x.number(0, 100, 0);
            x.number(1, 100, 0);
            x.call(0, 1);
            x.pass(1);
            Check.equal("debt at the rate " + rate, rate, x.debt(0, 1));
            Check.equal("rate", rate, x.unlink(0, 1));
        });
    }

    private static void promise03Trust() {
        range("link with trust", 0, MOST_TRUST, Check.ARGUMENT, trust -> {
            RoamLedger x = new RoamLedger();
            x.number(0, 10000, 1000);
            x.number(1, 0, 0);
            // A debt of 99999, so that the rates 0 and 1 tell the highest trusts apart.
            x.link(0, 1, 99, MOST_TRUST);
            x.call(0, 1);
            for (int times = 0; times < 5; times++) {
                x.pass(200);
            }
            x.link(0, 1, 100, MOST_TRUST);
            x.pass(9);
            x.link(0, 1, 99, MOST_TRUST);
            x.pass(1);
            Check.equal("debt", 99999, x.debt(0, 1));
            x.link(0, 1, 0, trust);
            Check.equal("barred at 99999", trust < 99999 ? 1 : 0, x.isBarred(0, 1) ? 1 : 0);
            x.link(0, 1, 1, trust);
            Check.equal("barred at 99999 and 1", trust < 100000 ? 1 : 0, x.isBarred(0, 1) ? 1 : 0);
            x.link(0, 1, 2, trust);
            Check.yes("barred at 99999 and 2", x.isBarred(0, 1));
            x.settle(0, 1);
            x.link(0, 1, 0, trust);
            Check.no("barred at 0", x.isBarred(0, 1));
            x.link(0, 1, 1, trust);
            Check.equal("barred at 1", trust < 1 ? 1 : 0, x.isBarred(0, 1) ? 1 : 0);
            x.link(0, 1, 2, trust);
            Check.equal("barred at 2", trust < 2 ? 1 : 0, x.isBarred(0, 1) ? 1 : 0);
        });
    }

    private static void promise04From() {
        carriers("unlink from", from -> {
            RoamLedger x = withAllLinks();
            Check.equal("rate", 1, x.unlink(from, other(from)));
            Check.yes("barred without a link", x.isBarred(from, other(from)));
        });
    }

    private static void promise04To() {
        carriers("unlink to", to -> {
            RoamLedger x = withAllLinks();
            Check.equal("rate", 1, x.unlink(other(to), to));
            Check.yes("barred without a link", x.isBarred(other(to), to));
        });
    }

    private static void promise05Home() {
        carriers("number at home", home -> {
            RoamLedger x = new RoamLedger();
            Check.equal("number", 0, x.number(home, 1, 1));
            Check.equal("home", home, x.home(0, 0));
        });
    }

    private static void promise05Balance() {
        range("number with balance", 0, 10000, Check.ARGUMENT, balance -> {
            RoamLedger x = new RoamLedger();
            x.number(0, balance, 7);
            Check.equal("balance", balance, x.balance(0));
        });
    }

    private static void promise05Bundle() {
        range("number with bundle", 0, 1000, Check.ARGUMENT, bundle -> {
            RoamLedger x = new RoamLedger();
            x.number(0, 7, bundle);
            Check.equal("bundle", bundle, x.bundle(0));
        });
    }

    private static void promise06Number() {
        for (int count : new int[] {1, 2, 19, 20}) {
            range("carryOver, of " + count + ", of number", 0, count - 1, Check.INDEX,
                    number -> Check.equal("homes", 2, withNumbers(count).carryOver(number, 1)));
        }
    }

    private static void promise06Carrier() {
        carriers("carryOver to", carrier -> {
            RoamLedger x = new RoamLedger();
            x.number(other(carrier), 0, 0);
            Check.equal("homes", 2, x.carryOver(0, carrier));
            Check.equal("home", carrier, x.home(0, 0));
        });
        for (int home = 0; home < 5; home++) {
            RoamLedger x = new RoamLedger();
            int same = home;
            x.number(same, 0, 0);
            Check.fails("carryOver to its home " + same, Check.ARGUMENT, () -> x.carryOver(0, same));
        }
    }

    private static void promise07Number() {
        for (int count : new int[] {1, 2, 19, 20}) {
            RoamLedger x = withNumbers(count);
            range("home, of " + count + ", of number", 0, count - 1, Check.INDEX,
                    number -> Check.equal("home", 0, x.home(number, 0)));
        }
    }

    private static void promise07Back() {
        RoamLedger x = withNumbers(1);
        for (int homes = 1; homes <= 10; homes++) {
            if (homes > 1) {
                x.carryOver(0, (homes - 1) % 5);
            }
            int last = homes - 1;
            range("home, of " + homes + " homes, back", 0, last, Check.INDEX,
                    back -> Check.equal("home", (last - back) % 5, x.home(0, back)));
        }
    }

    private static void promise08Number() {
        for (int count : new int[] {1, 2, 19, 20}) {
            range("topUp, of " + count + ", of number", 0, count - 1, Check.INDEX,
                    number -> Check.equal("balance", 10001, withNumbers(count).topUp(number, 1, 0)));
        }
    }

    private static void promise08Balance() {
        range("topUp by balance", 0, 10000, Check.ARGUMENT, balance -> {
            RoamLedger x = withNumbers(1);
            Check.equal("balance", 10000 + balance, x.topUp(0, balance, 1));
            Check.equal("balance", 10000 + balance, x.balance(0));
        });
    }

    private static void promise08Bundle() {
        range("topUp by bundle", 0, 1000, Check.ARGUMENT, bundle -> {
            RoamLedger x = withNumbers(1);
            Check.equal("balance", 10001, x.topUp(0, 1, bundle));
            Check.equal("bundle", bundle, x.bundle(0));
        });
    }

    private static void promise09Number() {
        for (int count : new int[] {1, 2, 19, 20}) {
            RoamLedger x = withNumbers(count);
            range("balance, of " + count + ", of number", 0, count - 1, Check.INDEX,
                    number -> Check.equal("balance", 10000, x.balance(number)));
        }
    }

    private static void promise10Number() {
        for (int count : new int[] {1, 2, 19, 20}) {
            RoamLedger x = withNumbers(count);
            range("bundle, of " + count + ", of number", 0, count - 1, Check.INDEX,
                    number -> Check.equal("bundle", 0, x.bundle(number)));
        }
    }

    private static void promise11Caller() {
        for (int count : new int[] {2, 3, 19, 20}) {
            range("call, of " + count + ", by number", 0, count - 1, Check.INDEX,
                    caller -> Check.equal("call", 0, withNumbers(count).call(caller, caller == 0 ? 1 : 0)));
        }
    }

    private static void promise11Called() {
        for (int count : new int[] {2, 3, 19, 20}) {
            range("call, of " + count + ", of number", 0, count - 1, Check.INDEX,
                    called -> Check.equal("call", 0, withNumbers(count).call(called == 0 ? 1 : 0, called)));
        }
        for (int number = 0; number < 20; number++) {
            int same = number;
            Check.fails("call of " + same + " by itself", Check.ARGUMENT, () -> withNumbers(20).call(same, same));
        }
    }

    private static void promise12Call() {
        for (int count : new int[] {1, 2, 59, 60}) {
            RoamLedger x = withCalls(count);
            Check.equal("hangUp of the last one of " + count, 0, x.hangUp(count - 1));
            for (int call : new int[] {Integer.MIN_VALUE, -1, count, Integer.MAX_VALUE}) {
                Check.fails("hangUp, of " + count + ", of call " + call, Check.INDEX, () -> x.hangUp(call));
            }
        }
        RoamLedger x = withNumbers(20);
        for (int call = 0; call < 10; call++) {
            x.call(call, call + 10);
        }
        for (int call = 0; call < 10; call++) {
            Check.equal("hangUp of call " + call, 0, x.hangUp(call));
        }
    }

    private static void promise13Minutes() {
        range("pass of minutes", 1, 200, Check.ARGUMENT, minutes -> {
            RoamLedger x = withCalls(1);
            Check.equal("cut", 0, x.pass(minutes));
            Check.equal("minutes", minutes, x.minutes(0));
            Check.equal("balance", 10000 - 10 * minutes, x.balance(0));
        });
    }

    private static void promise14Call() {
        for (int count : new int[] {1, 2, 59, 60}) {
            RoamLedger x = withCalls(count);
            range("state, of " + count + ", of call", 0, count - 1, Check.INDEX,
                    call -> Check.equal("state", call == count - 1 ? RoamLedger.RUNNING : RoamLedger.ENDED,
                            x.state(call)));
        }
    }

    private static void promise15Call() {
        for (int count : new int[] {1, 2, 59, 60}) {
            RoamLedger x = withCalls(count);
            x.pass(1);
            range("minutes, of " + count + ", of call", 0, count - 1, Check.INDEX,
                    call -> Check.equal("minutes", call == count - 1 ? 1 : 0, x.minutes(call)));
        }
    }

    private static void promise16Call() {
        for (int count : new int[] {1, 2, 59, 60}) {
            RoamLedger x = withCalls(count);
            range("moved, of " + count + ", of call", 0, count - 1, Check.INDEX,
                    call -> Check.equal("moved", 0, x.moved(call)));
        }
    }

    private static void promise17Call() {
        for (int count : new int[] {1, 2, 59, 60}) {
            RoamLedger x = withCalls(count);
            range("way, of " + count + ", of call", 0, count - 1, Check.INDEX,
                    call -> Check.equal("way", 0, x.way(call, 0)));
        }
    }

    private static void promise17Place() {
        for (int carriers = 1; carriers <= 5; carriers++) {
            RoamLedger x = withWayOf(carriers);
            range("way of " + carriers + " at", 0, carriers - 1, Check.INDEX,
                    place -> Check.equal("way", place, x.way(0, place)));
        }
    }

    private static void promise18Carriers() {
        RoamLedger x = withAllLinks();
        carriers("cost from", from -> Check.equal("cost", 1, x.cost(from, other(from))));
        carriers("cost to", to -> Check.equal("cost", 1, x.cost(other(to), to)));
        carriers("cost to itself of", carrier -> Check.equal("cost", 0, x.cost(carrier, carrier)));
    }

    private static void promise19Carriers() {
        RoamLedger x = withAllLinks();
        carriers("best from", from -> Check.equal("best", from, x.best(from, other(from), 0)));
        carriers("best to", to -> Check.equal("best", to, x.best(other(to), to, 1)));
        carriers("best to itself of", carrier -> Check.equal("best", carrier, x.best(carrier, carrier, 0)));
    }

    private static void promise19Place() {
        for (int carriers = 1; carriers <= 5; carriers++) {
            RoamLedger x = withWayOf(carriers);
            int to = carriers - 1;
            range("best of " + carriers + " at", 0, to, Check.INDEX,
                    place -> Check.equal("best", place, x.best(0, to, place)));
        }
    }

    private static void promise20Carriers() {
        RoamLedger x = withAllLinks();
        carriers("isBarred from", from -> Check.no("isBarred", x.isBarred(from, other(from))));
        carriers("isBarred to", to -> Check.no("isBarred", x.isBarred(other(to), to)));
        carriers("isBarred to itself of", carrier -> Check.yes("isBarred", x.isBarred(carrier, carrier)));
    }

    private static void promise21Carriers() {
        RoamLedger x = withDebts();
        carriers("debt of", from -> Check.equal("debt", from < other(from) ? 1 : -1, x.debt(from, other(from))));
        carriers("debt to", to -> Check.equal("debt", other(to) < to ? 1 : -1, x.debt(other(to), to)));
        carriers("debt to itself of", carrier -> Check.equal("debt", 0, x.debt(carrier, carrier)));
    }

    private static void promise22Carriers() {
        RoamLedger x = withDebts();
        carriers("charged of",
                from -> Check.equal("charged", from < other(from) ? 1 : 0, x.charged(from, other(from))));
        carriers("charged to", to -> Check.equal("charged", other(to) < to ? 1 : 0, x.charged(other(to), to)));
        carriers("charged to itself of", carrier -> Check.equal("charged", 0, x.charged(carrier, carrier)));
    }

    private static void promise23Carrier() {
        RoamLedger x = withDebts();
        // A carrier owes each higher one 1, and each lower one owes it 1.
        carriers("position of", carrier -> Check.equal("position", 2 * carrier - 4, x.position(carrier)));
    }

    private static void promise24Carriers() {
        for (int from = 0; from < 5; from++) {
            for (int to = 0; to < 5; to++) {
                int one = from;
                int another = to;
                String what = "settle by " + from + " with " + to;
                if (from < to) {
                    Check.equal(what, 1, withDebts().settle(one, another));
                } else {
                    Check.fails(what, Check.STATE, () -> withDebts().settle(one, another));
                }
            }
        }
        for (int none : new int[] {Integer.MIN_VALUE, -1, 5, Integer.MAX_VALUE}) {
            Check.fails("settle by " + none, Check.INDEX, () -> withDebts().settle(none, 4));
            Check.fails("settle with " + none, Check.INDEX, () -> withDebts().settle(0, none));
        }
    }
}
