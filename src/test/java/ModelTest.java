/** All promises: many runs of calls, the same ones each time, on LetterRuns and on PlainCentre. */
public final class ModelTest {
    private static final int RUNS = 250;
    private static final int CALLS = 130;
    private static final Check CHECK = new Check("ModelTest");

    private long seed;
    private final LetterRuns one = new LetterRuns();
    private final PlainCentre other = new PlainCentre();
    private final int mostPieces;
    private final int hurry;
    private final String name;

    private ModelTest(int run) {
        seed = 1000003L * run + 17;
        name = "run " + run;
        mostPieces = run % 5 == 0 ? 999 : run % 5 == 1 ? 8 : 120;
        hurry = run % 3 == 0 ? 3 : run % 3 == 1 ? 20 : 150;
    }

    public static void main(String[] args) {
        for (int run = 0; run < RUNS; run++) {
            ModelTest test = new ModelTest(run);
            test.settings();
            for (int call = 0; call < CALLS; call++) {
                test.call(call);
            }
            test.compareAll();
        }
        CHECK.finish();
    }

    /** A number from 0 to below the bound, from a row that is always the same. */
    private int any(int bound) {
        seed = seed * 6364136223846793005L + 1442695040888963407L;
        return (int) ((seed >>> 33) % bound);
    }

    private int pick(int... numbers) {
        return numbers[any(numbers.length)];
    }

    private void due(String call, long got, long want) {
        CHECK.due(name + ": " + call, got, want);
    }

    private void settings() {
        set(LetterRuns.SETUP, pick(0, 1, 3, 7));
        set(LetterRuns.REJECT, pick(0, 10, 100, 333, 500));
        set(LetterRuns.STAFF, pick(0, 1, 2, 5));
        set(LetterRuns.HAND, pick(1, 2, 5));
        set(LetterRuns.SHIFT, pick(0, 10, 60, 480));
        for (int shape = 0; shape < 3; shape++) {
            set(LetterRuns.SPEED0 + shape, pick(1, 3, 7, 10, 50));
        }
    }

    private void set(int setting, int value) {
        due("set(" + setting + ", " + value + ")", one.set(setting, value), other.set(setting, value));
    }

    private int soon() {
        return other.count(0) + any(hurry) - (any(30) == 0 ? hurry : 0);
    }

    private void call(int call) {
        int kind = any(100);
        if (kind < 24) {
            mail();
        } else if (kind < 44) {
            pass();
        } else if (kind < 52) {
            int route = any(20) == 0 ? pick(-1, 8) : any(8);
            int minute = any(10) == 0 ? pick(-1, 0, 1439, 1440) : soon();
            due("cutoff(" + route + ", " + minute + ")", one.cutoff(route, minute), other.cutoff(route, minute));
        } else if (kind < 60) {
            set(any(11) - 1, pick(-1, 0, 1, 2, 3, 10, 20, 30, 100, 500, 501, any(1500)));
        } else if (kind < 66) {
            text();
        } else if (kind < 72) {
            due("undo()", one.undo(), other.undo());
        } else if (kind < 76) {
            int slot = any(4) - 1;
            due("save(" + slot + ")", one.save(slot), other.save(slot));
        } else if (kind < 80) {
            int slot = any(4) - 1;
            due("restore(" + slot + ")", one.restore(slot), other.restore(slot));
        } else if (kind < 84) {
            due("sortedAt()", one.sortedAt(), other.sortedAt());
        } else if (kind < 88) {
            due("wouldMiss()", one.wouldMiss(), other.wouldMiss());
        } else if (kind < 90) {
            least();
        } else {
            ask();
        }
        if (call % 16 == 0) {
            compareAll();
        }
    }

    private void mail() {
        int shape = any(25) == 0 ? pick(-1, 3) : any(3);
        int pieces = any(25) == 0 ? pick(0, -1, 1000) : 1 + any(mostPieces);
        int route = any(25) == 0 ? pick(-1, 8) : any(pick(2, 8));
        int minute = any(25) == 0 ? pick(-1, 1439, 1440) : soon();
        due("mail(" + shape + ", " + pieces + ", " + route + ", " + minute + ")",
            one.mail(shape, pieces, route, minute), other.mail(shape, pieces, route, minute));
    }

    private void pass() {
        int minutes = any(15) == 0 ? pick(-1, 0, 1440, 700, Integer.MAX_VALUE) : 1 + any(hurry);
        due("pass(" + minutes + ")", one.pass(minutes), other.pass(minutes));
    }

    private void least() {
        int setting = any(10) == 0 ? any(9) : pick(2, 6, 7, 8);
        int pieces = any(10) == 0 ? pick(-1, Integer.MAX_VALUE) : any(Math.max(1, other.wouldMiss() + pick(1, 3, 50)));
        due("least(" + setting + ", " + pieces + ")", one.least(setting, pieces), other.least(setting, pieces));
    }

    private void text() {
        String text = "";
        for (int orders = 1 + any(4); orders > 0; orders--) {
            text += (text.isEmpty() ? "" : ";") + order();
        }
        if (any(4) == 0) {
            int place = any(text.length());
            text = text.substring(0, place) + "lfpcts;>@=0123456789x".charAt(any(21)) + text.substring(place + any(2));
        }
        int start = 0;
        while (start < text.length()) {
            int end = Math.min(text.length(), start + 1 + any(8));
            long packed = Check.packed(text.substring(start, end));
            due("put(" + packed + ")", one.put(packed), other.put(packed));
            start = end;
        }
        long strange = any(8) == 0 ? seed : Check.packed("t1") & ~(255L << 8 * any(4));
        due("put(" + strange + ")", one.put(strange), other.put(strange));
        due("fault()", one.fault(), other.fault());
        due("carryOut()", one.carryOut(), other.carryOut());
        if (any(2) == 0) {
            due("wipe()", one.wipe(), other.wipe());
        }
    }

    private String order() {
        switch (any(6)) {
            case 0: return "t" + pick(0, 1, 5, 9999, any(hurry));
            case 1: return "s" + any(22);
            case 2: return "c" + any(8) + "=" + Math.max(0, soon());
            default: return "lfp".charAt(any(3)) + "" + any(mostPieces + 1) + ">" + any(8) + "@" + Math.max(0, soon());
        }
    }

    private void ask() {
        int number = pick(-1, 39, 40, any(40), any(5));
        int what = any(21) - 1;
        due("batch(" + number + ", " + what + ")", one.batch(number, what), other.batch(number, what));
        due("machine(" + number + ", " + what + ")", one.machine(number, what), other.machine(number, what));
        due("route(" + number + ", " + what + ")", one.route(number, what), other.route(number, what));
        due("count(" + what + ")", one.count(what), other.count(what));
        due("delayed(" + what + ")", one.delayed(what), other.delayed(what));
        due("queued(" + number + ", " + what + ")", one.queued(number, what), other.queued(number, what));
    }

    private void compareAll() {
        for (int what = 0; what <= 18; what++) {
            due("count(" + what + ")", one.count(what), other.count(what));
        }
        for (int number = 0; number < other.count(1); number++) {
            for (int what = 0; what <= 10; what++) {
                due("batch(" + number + ", " + what + ")", one.batch(number, what), other.batch(number, what));
            }
        }
        for (int shape = 0; shape < 3; shape++) {
            for (int what = 0; what <= 5; what++) {
                due("machine(" + shape + ", " + what + ")", one.machine(shape, what), other.machine(shape, what));
            }
            for (int place = 0; place <= other.machine(shape, 1); place++) {
                due("queued(" + shape + ", " + place + ")", one.queued(shape, place), other.queued(shape, place));
            }
        }
        for (int route = 0; route < 8; route++) {
            for (int what = 0; what <= 4; what++) {
                due("route(" + route + ", " + what + ")", one.route(route, what), other.route(route, what));
            }
        }
        for (int delay = 0; delay <= 4; delay++) {
            due("delayed(" + delay + ")", one.delayed(delay), other.delayed(delay));
        }
    }
}
