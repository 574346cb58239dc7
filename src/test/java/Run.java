import java.util.ArrayList;
import java.util.List;

/**
 * The calls of one edge on a new object. Each answer is held against the one that is due, and the oracle has to
 * agree. At the end it is held against a twin that never got the refused calls: nothing but status() may differ.
 */
final class Run {
    private static final int MOST_CALLS = 512;

    private final VanRounds mine = new VanRounds();
    private final Oracle plain = new Oracle();
    private final List<Call> calls = new ArrayList<>();
    private final List<Integer> answers = new ArrayList<>();
    private final List<String> faults = new ArrayList<>();

    List<String> faults() {
        return faults;
    }

    /** Each of these calls, as "put 0 0 1", answers what is due. */
    void due(int want, String... texts) {
        for (String text : texts) {
            Call call = Call.of(text);
            int got = answer(call);
            if (got != want) faults.add(call + ", call " + calls.size() + ", answered " + got + ", due is " + want);
        }
    }

    /** Calls that make ready for an edge: none may be refused. */
    void make(String... texts) {
        for (String text : texts) {
            Call call = Call.of(text);
            int got = answer(call);
            if (isRefusal(got)) faults.add("made ready by " + call + ", which answered " + got);
        }
    }

    /** Each of these calls is refused, by whatever the oracle says. */
    void refused(String... texts) {
        for (String text : texts) {
            Call call = Call.of(text);
            int got = answer(call);
            if (!isRefusal(got)) faults.add(call + " answered " + got + ", but is to be refused");
        }
    }

    /** The round of a van is these stops, and no more. */
    void round(int van, int... stops) {
        due(stops.length, "round " + van + " -1");
        for (int i = 0; i < stops.length; i++) due(stops[i], "round " + van + " " + i);
    }

    /** When a van comes to a stop of its round, begins, leaves, and what is aboard then. */
    void when(int van, int i, int... want) {
        for (int what = 0; what < want.length; what++) due(want[what], "when " + van + " " + i + " " + what);
    }

    /** THE ROW is these numbers, and no more. */
    void row(int... numbers) {
        for (int i = 0; i < numbers.length; i++) due(numbers[i], "row " + i);
        due(Edges.BEYOND, "row " + numbers.length);
    }

    private int answer(Call call) {
        int got;
        try {
            got = call.on(mine);
        } catch (RuntimeException thrown) {
            faults.add(call + " threw " + thrown);
            got = Integer.MIN_VALUE;
        }
        calls.add(call);
        answers.add(got);
        int other = call.on(plain);
        if (got != other) faults.add(call + ", call " + calls.size() + ", answered " + got + ", the oracle " + other);
        if (calls.size() > MOST_CALLS) faults.add("more than " + MOST_CALLS + " calls");
        return got;
    }

    private static boolean isRefusal(int answer) {
        return answer <= Edges.MISSING && answer >= Edges.FULL;
    }

    void end() {
        tally();
        for (int view = 0; view < Views.COUNT; view++) twins(view);
    }

    private void tally() {
        if (calls.size() > MOST_CALLS - 7) return;
        for (int by = Edges.FULL; by <= Edges.MISSING; by++) {
            int refused = 0;
            for (int got : answers) if (got == by) refused++;
            int got = mine.status(by);
            if (got != refused) faults.add("status(" + by + ") answered " + got + ", refused were " + refused);
        }
    }

    /** One gets all calls, the other one only those that weren't refused: then both are looked at. */
    private void twins(int view) {
        VanRounds all = new VanRounds();
        VanRounds some = new VanRounds();
        for (int k = 0; k < calls.size(); k++) {
            Call call = calls.get(k);
            call.on(all);
            if (isRefusal(answers.get(k))) continue;
            int got = call.on(some);
            boolean status = call.name().equals("status");
            if (!status && got != answers.get(k)) {
                faults.add(call + ", call " + (k + 1) + ", answers " + got + " where no call was refused");
                return;
            }
        }
        if (calls.size() + Views.MOST_CALLS > MOST_CALLS) return;
        List<String> one = Views.of(all, view);
        List<String> other = Views.of(some, view);
        for (int k = 0; k < Math.min(one.size(), other.size()); k++) {
            if (one.get(k).equals(other.get(k))) continue;
            faults.add("behind refused calls " + one.get(k) + ", without them " + other.get(k));
            return;
        }
    }
}
