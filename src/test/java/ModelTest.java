import java.util.ArrayList;
import java.util.List;

/**
 * Long runs of calls, told to the program and to a second switch that is written from the document's
 * words alone: ways are all walked and compared, debts are told anew from lists of charges and payments.
 * The runs come from a fixed row of seeds, so they are the same each time.
 */
public final class ModelTest {
    private static final int RUNS = 1500;
    private static final int MOST_CALLS_OF_AN_OBJECT = 512;

    public static void main(String[] args) {
        for (int seed = 0; seed < RUNS; seed++) {
            new Run(seed).play();
        }
        heavyRun();
        Check.end();
    }

    /** Ten calls over whole chains of carriers, at the longest times. */
    private static void heavyRun() {
        RoamLedger x = new RoamLedger();
        Model m = new Model();
        for (int from = 0; from < 5; from++) {
            for (int to = 0; to < 5; to++) {
                if (from != to) {
                    x.link(from, to, 100 - Math.abs(from - to) * 7, 100000);
                    m.link(from, to, 100 - Math.abs(from - to) * 7, 100000);
                }
            }
        }
        for (int number = 0; number < 20; number++) {
            x.number(number % 5, 10000, 1000);
            m.number(number % 5, 10000, 1000);
        }
        for (int call = 0; call < 10; call++) {
            x.call(call, 19 - call);
            m.call(call, 19 - call);
        }
        for (int times = 0; times < 100; times++) {
            Check.equal("pass of a heavy run", m.pass(200), x.pass(200));
            for (int number = 0; number < 10 && times < 90; number++) {
                if (times % 9 == number) {
                    x.topUp(number, 10000, 1000);
                    m.topUp(number, 10000, 1000);
                }
            }
        }
        for (int from = 0; from < 5; from++) {
            for (int to = 0; to < 5; to++) {
                Check.equal("debt of a heavy run", m.debt(from, to), x.debt(from, to));
                Check.equal("charged of a heavy run", m.charged(from, to), x.charged(from, to));
            }
        }
    }

    /** What a call answered: a number, or the exception that it threw. */
    private record Answer(long value, Class<?> thrown) {
        static Answer of(Asked asked) {
            try {
                return new Answer(asked.ask(), null);
            } catch (RuntimeException e) {
                return new Answer(0, e.getClass());
            }
        }
    }

    private interface Asked {
        long ask();
    }

    private static final class Run {
        private final int seed;
        private final RoamLedger x = new RoamLedger();
        private final Model m = new Model();
        private long random;
        private int calls;
        private final int mostRate;
        private final int mostTrust;
        private final int mostBalance;
        private final int mostMinutes;
        private final int numbers;

        Run(int seed) {
            this.seed = seed;
            this.random = seed * 7919L + 17;
            mostRate = pick(1, 3, 10, 100);
            mostTrust = pick(20, 100, 1000, 100000);
            mostBalance = pick(30, 200, 10000, 10000);
            mostMinutes = pick(2, 10, 30, 200);
            numbers = pick(3, 6, 12, 20);
        }

        private int below(int bound) {
            random = random * 6364136223846793005L + 1442695040888963407L;
            return (int) ((random >>> 33) % bound);
        }

        private int pick(int... values) {
            return values[below(values.length)];
        }

        /** Mostly from 0 to most, now and then at or beyond an edge. */
        private int upTo(int most, int edge) {
            return below(40) == 0 ? pick(-1, edge, edge + 1, 0) : below(most + 1);
        }

        private int carrier() {
            return below(60) == 0 ? pick(-1, 5) : below(5);
        }

        private int aNumber() {
            return below(60) == 0 ? pick(-1, numbers) : below(numbers);
        }

        private int aCall() {
            return below(60) == 0 ? pick(-1, m.talks.size()) : below(m.talks.size() + 1);
        }

        void play() {
            for (int i = 0; i < 8 + below(6); i++) {
                tellLink();
            }
            for (int i = 0; i < numbers; i++) {
                int home = below(5);
                int balance = below(mostBalance + 1);
                int bundle = below(pick(1, 10, 100));
                compare("number", () -> x.number(home, balance, bundle), () -> m.number(home, balance, bundle));
            }
            while (calls < MOST_CALLS_OF_AN_OBJECT) {
                change();
                askAboutNumbersAndCalls();
                askAboutRoutesAndDebts();
            }
        }

        private void compare(String what, Asked program, Asked model) {
            if (calls >= MOST_CALLS_OF_AN_OBJECT) {
                return;
            }
            calls++;
            Answer due = Answer.of(model);
            Answer answer = Answer.of(program);
            Check.yes("run " + seed + ", call " + calls + ": " + what + " answered " + answer + ", due is " + due,
                    answer.equals(due));
        }

        private void tellLink() {
            int from = carrier();
            int to = carrier();
            int rate = upTo(mostRate, 100);
            int trust = upTo(mostTrust, 100000);
            compare("link", () -> x.link(from, to, rate, trust) ? 1 : 0, () -> m.link(from, to, rate, trust) ? 1 : 0);
        }

        private void change() {
            int c = carrier();
            int d = carrier();
            int n = aNumber();
            int k = aNumber();
            int a = upTo(mostBalance, 10000);
            int b = upTo(pick(1, 10, 100), 1000);
            int step = below(40) == 0 ? pick(0, 10, 11) : 1 + below(10);
            int price = upTo(pick(5, 50, 1000), 1000);
            int t = aCall();
            int minutes = below(40) == 0 ? pick(0, 200, 201) : 1 + below(mostMinutes);
            switch (below(14)) {
                case 0 -> compare("tariff", () -> x.tariff(c, step, price), () -> m.tariff(c, step, price));
                case 1 -> tellLink();
                case 2 -> compare("unlink", () -> x.unlink(c, d), () -> m.unlink(c, d));
                case 3 -> compare("carryOver", () -> x.carryOver(n, c), () -> m.carryOver(n, c));
                case 4 -> compare("topUp", () -> x.topUp(n, a, b), () -> m.topUp(n, a, b));
                case 5 -> compare("hangUp", () -> x.hangUp(t), () -> m.hangUp(t));
                case 6 -> compare("settle", () -> x.settle(c, d), () -> m.settle(c, d));
                case 7, 8, 9, 10 -> compare("call", () -> x.call(n, k), () -> m.call(n, k));
                default -> compare("pass", () -> x.pass(minutes), () -> m.pass(minutes));
            }
        }

        private void askAboutNumbersAndCalls() {
            int n = aNumber();
            int t = aCall();
            int place = below(40) == 0 ? -1 : below(5);
            int back = below(40) == 0 ? -1 : below(6);
            switch (below(7)) {
                case 0 -> compare("home", () -> x.home(n, back), () -> m.home(n, back));
                case 1 -> compare("balance", () -> x.balance(n), () -> m.balance(n));
                case 2 -> compare("bundle", () -> x.bundle(n), () -> m.bundle(n));
                case 3 -> compare("state", () -> x.state(t), () -> m.state(t));
                case 4 -> compare("minutes", () -> x.minutes(t), () -> m.minutes(t));
                case 5 -> compare("moved", () -> x.moved(t), () -> m.moved(t));
                default -> compare("way", () -> x.way(t, place), () -> m.way(t, place));
            }
        }

        private void askAboutRoutesAndDebts() {
            int c = carrier();
            int d = carrier();
            int place = below(40) == 0 ? -1 : below(6);
            switch (below(6)) {
                case 0 -> compare("cost", () -> x.cost(c, d), () -> m.cost(c, d));
                case 1 -> compare("best", () -> x.best(c, d, place), () -> m.best(c, d, place));
                case 2 -> compare("isBarred", () -> x.isBarred(c, d) ? 1 : 0, () -> m.isBarred(c, d) ? 1 : 0);
                case 3 -> compare("debt", () -> x.debt(c, d), () -> m.debt(c, d));
                case 4 -> compare("charged", () -> x.charged(c, d), () -> m.charged(c, d));
                default -> compare("position", () -> x.position(c), () -> m.position(c));
            }
        }
    }

    /** The document's switch, with no regard to what it costs to run. */
    private static final class Model {
        private static final class Link {
            int rate;
            int trust;
        }

        private static final class Line {
            final List<Integer> chain = new ArrayList<>();
            int balance;
            int bundle;
        }

        private static final class Talk {
            Line caller;
            Line called;
            int step;
            int price;
            List<Integer> way;
            int state = RoamLedger.RUNNING;
            int minutes;
            int moved;
        }

        final List<Talk> talks = new ArrayList<>();
        private final List<Line> lines = new ArrayList<>();
        private final Link[][] links = new Link[5][5];
        private final int[] steps = {1, 1, 1, 1, 1};
        private final int[] prices = {10, 10, 10, 10, 10};
        private final long[][] due = new long[5][5];
        private final long[][] paid = new long[5][5];

        private static void index(boolean fits) {
            if (!fits) {
                throw new IndexOutOfBoundsException();
            }
        }

        private static void argument(boolean fits) {
            if (!fits) {
                throw new IllegalArgumentException();
            }
        }

        private static void inState(boolean fits) {
            if (!fits) {
                throw new IllegalStateException();
            }
        }

        private static void carriers(int... carriers) {
            for (int carrier : carriers) {
                index(0 <= carrier && carrier <= 4);
            }
        }

        private Line line(int number) {
            index(0 <= number && number < lines.size());
            return lines.get(number);
        }

        private Talk talk(int call) {
            index(0 <= call && call < talks.size());
            return talks.get(call);
        }

        private static int homeOf(Line line) {
            return line.chain.get(line.chain.size() - 1);
        }

        int tariff(int carrier, int step, int price) {
            carriers(carrier);
            argument(1 <= step && step <= 10 && 0 <= price && price <= 1000);
            int before = prices[carrier];
            steps[carrier] = step;
            prices[carrier] = price;
            return before;
        }

        boolean link(int from, int to, int rate, int trust) {
            carriers(from, to);
            argument(from != to && 0 <= rate && rate <= 100 && 0 <= trust && trust <= 100000);
            boolean before = links[from][to] != null;
            links[from][to] = new Link();
            links[from][to].rate = rate;
            links[from][to].trust = trust;
            return before;
        }

        int unlink(int from, int to) {
            carriers(from, to);
            inState(links[from][to] != null);
            int rate = links[from][to].rate;
            links[from][to] = null;
            return rate;
        }

        int number(int home, int balance, int bundle) {
            carriers(home);
            argument(0 <= balance && balance <= 10000 && 0 <= bundle && bundle <= 1000);
            inState(lines.size() < 20);
            Line line = new Line();
            line.chain.add(home);
            line.balance = balance;
            line.bundle = bundle;
            lines.add(line);
            return lines.size() - 1;
        }

        int carryOver(int number, int carrier) {
            Line line = line(number);
            carriers(carrier);
            argument(homeOf(line) != carrier);
            inState(line.chain.size() < 10);
            line.chain.add(carrier);
            return line.chain.size();
        }

        int home(int number, int back) {
            List<Integer> chain = line(number).chain;
            index(0 <= back && back < chain.size());
            return chain.get(chain.size() - 1 - back);
        }

        int topUp(int number, int balance, int bundle) {
            Line line = line(number);
            argument(0 <= balance && balance <= 10000 && 0 <= bundle && bundle <= 1000);
            inState(line.balance + balance <= 1000000 && line.bundle + bundle <= 100000);
            line.balance += balance;
            line.bundle += bundle;
            return line.balance;
        }

        int balance(int number) {
            return line(number).balance;
        }

        int bundle(int number) {
            return line(number).bundle;
        }

        private boolean runs(Line line) {
            return talks.stream().anyMatch(
                    t -> t.state == RoamLedger.RUNNING && (t.caller == line || t.called == line));
        }

        int call(int caller, int called) {
            Line from = line(caller);
            Line to = line(called);
            argument(caller != called);
            List<Integer> way = bestWay(homeOf(from), homeOf(to));
            inState(!runs(from) && !runs(to) && way != null && talks.size() < 60);
            Talk talk = new Talk();
            talk.caller = from;
            talk.called = to;
            talk.step = steps[homeOf(from)];
            talk.price = prices[homeOf(from)];
            talk.way = way;
            talks.add(talk);
            return talks.size() - 1;
        }

        int hangUp(int call) {
            Talk talk = talk(call);
            inState(talk.state == RoamLedger.RUNNING);
            talk.state = RoamLedger.ENDED;
            return talk.minutes;
        }

        int pass(int minutes) {
            argument(1 <= minutes && minutes <= 200);
            int cut = 0;
            for (int minute = 0; minute < minutes; minute++) {
                for (Talk talk : talks) {
                    if (talk.state == RoamLedger.RUNNING) {
                        runOneMinute(talk);
                        cut += talk.state == RoamLedger.CUT ? 1 : 0;
                    }
                }
            }
            return cut;
        }

        private void runOneMinute(Talk talk) {
            boolean open = true;
            for (int i = 0; i + 1 < talk.way.size(); i++) {
                open &= !isBarred(talk.way.get(i), talk.way.get(i + 1));
            }
            if (!open) {
                List<Integer> other = bestWay(talk.way.get(0), talk.way.get(talk.way.size() - 1));
                if (other == null) {
                    talk.state = RoamLedger.CUT;
                    return;
                }
                talk.way = other;
                talk.moved++;
            }
            if (talk.minutes % talk.step == 0) {
                if (talk.caller.bundle >= talk.step) {
                    talk.caller.bundle -= talk.step;
                } else if (talk.caller.balance >= talk.price) {
                    talk.caller.balance -= talk.price;
                } else {
                    talk.state = RoamLedger.CUT;
                    return;
                }
            }
            for (int i = 0; i + 1 < talk.way.size(); i++) {
                due[talk.way.get(i)][talk.way.get(i + 1)] += links[talk.way.get(i)][talk.way.get(i + 1)].rate;
            }
            talk.minutes++;
        }

        int state(int call) {
            return talk(call).state;
        }

        int minutes(int call) {
            return talk(call).minutes;
        }

        int moved(int call) {
            return talk(call).moved;
        }

        int way(int call, int place) {
            List<Integer> way = talk(call).way;
            index(0 <= place && place < way.size());
            return way.get(place);
        }

        private int costOf(List<Integer> way) {
            int cost = 0;
            for (int i = 0; i + 1 < way.size(); i++) {
                cost += links[way.get(i)][way.get(i + 1)].rate;
            }
            return cost;
        }

        private List<Integer> bestWay(int from, int to) {
            List<List<Integer>> ways = new ArrayList<>();
            List<Integer> start = new ArrayList<>();
            start.add(from);
            walk(start, to, ways);
            List<Integer> best = null;
            for (List<Integer> way : ways) {
                if (best == null || isBetter(way, best)) {
                    best = way;
                }
            }
            return best;
        }

        private void walk(List<Integer> begun, int to, List<List<Integer>> ways) {
            int last = begun.get(begun.size() - 1);
            if (last == to) {
                ways.add(begun);
                return;
            }
            for (int next = 4; next >= 0; next--) {
                if (!begun.contains(next) && !isBarred(last, next)) {
                    List<Integer> longer = new ArrayList<>(begun);
                    longer.add(next);
                    walk(longer, to, ways);
                }
            }
        }

        private boolean isBetter(List<Integer> way, List<Integer> than) {
            if (costOf(way) != costOf(than)) {
                return costOf(way) < costOf(than);
            }
            if (way.size() != than.size()) {
                return way.size() < than.size();
            }
            for (int i = 0; i < way.size(); i++) {
                if (!way.get(i).equals(than.get(i))) {
                    return way.get(i) < than.get(i);
                }
            }
            return false;
        }

        int cost(int from, int to) {
            carriers(from, to);
            List<Integer> way = bestWay(from, to);
            return way == null ? RoamLedger.NONE : costOf(way);
        }

        int best(int from, int to, int place) {
            carriers(from, to);
            List<Integer> way = bestWay(from, to);
            index(way != null && 0 <= place && place < way.size());
            return way.get(place);
        }

        boolean isBarred(int from, int to) {
            carriers(from, to);
            Link link = links[from][to];
            return link == null || debt(from, to) + link.rate > link.trust;
        }

        long debt(int from, int to) {
            carriers(from, to);
            return (due[from][to] - paid[from][to]) - (due[to][from] - paid[to][from]);
        }

        long charged(int from, int to) {
            carriers(from, to);
            return due[from][to];
        }

        long position(int carrier) {
            carriers(carrier);
            long sum = 0;
            for (int other = 0; other < 5; other++) {
                sum += debt(other, carrier);
            }
            return sum;
        }

        long settle(int from, int to) {
            carriers(from, to);
            long debt = debt(from, to);
            inState(debt > 0);
            paid[from][to] += debt;
            return debt;
        }
    }
}
