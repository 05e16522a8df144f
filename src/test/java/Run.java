import java.util.ArrayList;
import java.util.List;

/**
 * A row of calls that is made anew on a new object whenever something is asked about what is there behind it, so that
 * asking takes none of the 512 calls of one object from the row.
 */
final class Run {
    interface Call {
        long on(Face x);
    }

    private static final int AT_ONCE = 10;

    private final List<Call> calls = new ArrayList<>();

    Run then(Call call) {
        calls.add(call);
        return this;
    }

    Run copy() {
        Run copy = new Run();
        copy.calls.addAll(calls);
        return copy;
    }

    int length() {
        return calls.size();
    }

    /** A new object on which all calls were made. */
    Counted made() {
        Counted x = new Counted();
        for (Call call : calls) {
            call.on(x);
        }
        return x;
    }

    /** What one more call would answer. */
    long answer(Call call) {
        return call.on(made());
    }

    /** All that is there, but for the pad, the slots and how many changes can be undone. */
    String state() {
        StringBuilder told = new StringBuilder(numbers(made()));
        for (int first = 0; first < 40; first += AT_ONCE) {
            told.append(batches(made(), first, first + AT_ONCE));
        }
        return told.toString();
    }

    /** The state now, and behind minutes that pass: these tell also what cannot be asked, as the row of the hands. */
    String stateAndLater() {
        StringBuilder told = new StringBuilder(state());
        int[] later = {1, 9, 1440 - (int) answer(x -> x.count(0))};
        for (int minutes : later) {
            told.append("\n").append(minutes).append(" minutes later:").append(copy().then(x -> x.pass(minutes)).state());
        }
        return told.toString();
    }

    static String state(Face x) {
        StringBuilder told = new StringBuilder(numbers(x));
        for (int first = 0; first < 40; first += AT_ONCE) {
            told.append(batches(x, first, first + AT_ONCE));
        }
        return told.toString();
    }

    private static String numbers(Face x) {
        StringBuilder told = new StringBuilder("\ncount");
        for (int what = 0; what <= 16; what++) {
            told.append(' ').append(x.count(what));
        }
        for (int machine = 0; machine < 3; machine++) {
            told.append("\nmachine ").append(machine).append(':');
            for (int what = 0; what <= 5; what++) {
                told.append(' ').append(x.machine(machine, what));
            }
            told.append(", queue");
            long last = 0;
            for (int place = 0; place <= 40 && last >= 0; place++) {
                last = x.queued(machine, place);
                told.append(' ').append(last);
            }
        }
        for (int route = 0; route < 8; route++) {
            told.append("\nroute ").append(route).append(':');
            for (int what = 0; what <= 4; what++) {
                told.append(' ').append(x.route(route, what));
            }
        }
        told.append("\ndelayed");
        for (int delay = 0; delay <= 4; delay++) {
            told.append(' ').append(x.delayed(delay));
        }
        return told.toString();
    }

    private static String batches(Face x, int first, int end) {
        StringBuilder told = new StringBuilder();
        for (int batch = first; batch < end; batch++) {
            if (x.batch(batch, 0) < 0) {
                break;
            }
            told.append("\nbatch ").append(batch).append(':');
            for (int what = 0; what <= 10; what++) {
                told.append(' ').append(x.batch(batch, what));
            }
        }
        return told.toString();
    }
}
