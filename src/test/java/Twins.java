import java.util.ArrayList;
import java.util.List;

/**
 * Tells whether a call changes a switch: two switches are told the same calls, one of them that call too; then
 * both are told the same sequel and asked all that there is to ask. A row of questions is asked of a new pair
 * each time, since an object answers 512 calls at most.
 */
final class Twins {
    private static final int QUESTIONS_OF_A_PAIR = 120;
    private static final List<Asked> QUESTIONS = questions();

    private Twins() {
    }

    /** Calls that make a switch what it is, or the call that is tested. */
    interface Told {
        void tell(RoamLedger x);
    }

    /** Calls that follow what is tested, with all that they answer. */
    interface Sequel {
        String tell(RoamLedger x);
    }

    /** A question, or a call whose answer is looked at. */
    interface Asked {
        long ask(RoamLedger x);
    }

    /** The call throws the very exception, and leaves all as it was, at once and after each sequel. */
    static void refuses(String what, Class<? extends RuntimeException> due, Told story, Told call,
            Sequel... sequels) {
        changesNothing(what, story, x -> Check.fails(what, due, () -> call.tell(x)), sequels);
    }

    static void changesNothing(String what, Told story, Told call, Sequel... sequels) {
        compare(what + ", at once", story, call, x -> "");
        for (int place = 0; place < sequels.length; place++) {
            compare(what + ", after sequel " + place, story, call, sequels[place]);
        }
    }

    private static void compare(String what, Told story, Told call, Sequel sequel) {
        for (int first = 0; first < QUESTIONS.size(); first += QUESTIONS_OF_A_PAIR) {
            RoamLedger x = new RoamLedger();
            RoamLedger y = new RoamLedger();
            story.tell(x);
            story.tell(y);
            call.tell(x);
            Check.yes(what + ": the sequel", sequel.tell(x).equals(sequel.tell(y)));
            int end = Math.min(first + QUESTIONS_OF_A_PAIR, QUESTIONS.size());
            for (int place = first; place < end; place++) {
                Asked question = QUESTIONS.get(place);
                Check.yes(what + ": question " + place, answer(question, x).equals(answer(question, y)));
            }
        }
    }

    /** The answer, or the name of the exception that is thrown. */
    static String answer(Asked question, RoamLedger x) {
        try {
            return Long.toString(question.ask(x));
        } catch (RuntimeException e) {
            return e.getClass().getName();
        }
    }

    private static List<Asked> questions() {
        List<Asked> all = new ArrayList<>();
        for (int number = 0; number <= 20; number++) {
            addOfNumber(all, number);
        }
        for (int call = 0; call <= 60; call++) {
            addOfCall(all, call);
        }
        for (int from = 0; from < 5; from++) {
            int carrier = from;
            all.add(x -> x.position(carrier));
            for (int to = 0; to < 5; to++) {
                addOfCarriers(all, from, to);
            }
        }
        return all;
    }

    private static void addOfNumber(List<Asked> all, int number) {
        all.add(x -> x.balance(number));
        all.add(x -> x.bundle(number));
        for (int back = 0; back <= 10; back++) {
            int place = back;
            all.add(x -> x.home(number, place));
        }
    }

    private static void addOfCall(List<Asked> all, int call) {
        all.add(x -> x.state(call));
        all.add(x -> x.minutes(call));
        all.add(x -> x.moved(call));
        for (int place = 0; place <= 5; place++) {
            int one = place;
            all.add(x -> x.way(call, one));
        }
    }

    private static void addOfCarriers(List<Asked> all, int from, int to) {
        all.add(x -> x.cost(from, to));
        all.add(x -> x.isBarred(from, to) ? 1 : 0);
        all.add(x -> x.debt(from, to));
        all.add(x -> x.charged(from, to));
        for (int place = 0; place <= 5; place++) {
            int one = place;
            all.add(x -> x.best(from, to, one));
        }
    }
}
