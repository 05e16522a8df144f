/** Promises 6 to 11: batch, machine, route, count, delayed, queued. */
public final class AnswersTest {
    private static final Check CHECK = new Check("AnswersTest");

    public static void main(String[] args) {
        Counted x = busyDay();
        batch(x);
        machine(x);
        route(x);
        count(x);
        delayed(x);
        queued(x);
        askingChangesNothing();
        CHECK.finish();
    }

    /**
     * Minute 4 of a day: batch 0 has 55 of 100 letters left, 10 of 45 went to the hands, who sort one in a minute;
     * batches 1 and 2 wait behind it; batch 3 (flats) went away with its cutoff; batch 4 has not come.
     */
    private static Counted busyDay() {
        Counted x = new Counted();
        busy(x);
        return x;
    }

    private static int busy(Face x) {
        x.set(LetterRuns.SETUP, 1);
        x.set(LetterRuns.REJECT, 0);
        x.set(LetterRuns.STAFF, 1);
        x.set(LetterRuns.HAND, 1);
        x.set(LetterRuns.SPEED0, 15);
        x.mail(0, 100, 3, 0);
        x.mail(0, 20, 4, 1);
        x.mail(0, 30, 3, 1);
        x.mail(1, 30, 5, 0);
        x.mail(2, 7, 3, 9);
        x.cutoff(5, 2);
        x.pass(2);
        x.set(LetterRuns.REJECT, 333);
        x.pass(2);
        return x.count(0);
    }

    private static void batch(Counted x) {
        int[][] want = {
            // shape, pieces, route, minute, machine, hands, sorted, gone, missed, delay, sorted at
            {0, 100, 3, 0, 55, 8, 37, 0, 0, 2, -6},
            {0, 20, 4, 1, 20, 0, 0, 0, 0, 1, -6},
            {0, 30, 3, 1, 30, 0, 0, 0, 0, 1, -6},
            {1, 30, 5, 0, 0, 0, 0, 30, 0, 2, 1},
            {2, 7, 3, 9, 7, 0, 0, 0, 0, 0, -6},
        };
        for (int batch = 0; batch < want.length; batch++) {
            for (int what = 0; what < want[batch].length; what++) {
                CHECK.due("6: batch(" + batch + ", " + what + ")", x.batch(batch, what), want[batch][what]);
            }
        }
        CHECK.due("6: what -1", x.batch(0, -1), -2);
        CHECK.due("6: what 11", x.batch(0, 11), -2);
        CHECK.due("6: batch -1", x.batch(-1, 0), -1);
        CHECK.due("6: batch 5", x.batch(5, 0), -1);
        CHECK.due("6: batch 40", x.batch(40, 0), -1);
        CHECK.due("6: no batch before a wrong what", x.batch(5, 11), -1);
        CHECK.due("6: extremes", x.batch(Integer.MAX_VALUE, Integer.MIN_VALUE), -1);
        CHECK.due("6: extremes", x.batch(Integer.MIN_VALUE, 0), -1);
        CHECK.due("6: extremes", x.batch(0, Integer.MAX_VALUE), -2);
    }

    private static void machine(Counted x) {
        int[][] want = {
            // batch, in the queue, minutes to set up, route, sorted, set up
            {0, 2, 0, 3, 45, 1},
            {-6, 0, 0, 5, 30, 1},
            {-6, 0, 0, -6, 0, 0},
        };
        for (int machine = 0; machine < want.length; machine++) {
            for (int what = 0; what < want[machine].length; what++) {
                CHECK.due("7: machine(" + machine + ", " + what + ")", x.machine(machine, what), want[machine][what]);
            }
        }
        CHECK.due("7: machine -1", x.machine(-1, 0), -1);
        CHECK.due("7: machine 3", x.machine(3, 0), -1);
        CHECK.due("7: no machine before a wrong what", x.machine(3, 6), -1);
        CHECK.due("7: what -1", x.machine(0, -1), -2);
        CHECK.due("7: what 6", x.machine(2, 6), -2);
        CHECK.due("7: extremes", x.machine(Integer.MIN_VALUE, Integer.MAX_VALUE), -1);
        CHECK.due("7: extremes", x.machine(0, Integer.MIN_VALUE), -2);
    }

    private static void route(Counted x) {
        int[][] want = {
            // route, cutoff, gone, missed, sorted, all
            {0, 720, 0, 0, 0, 0},
            {3, 720, 0, 0, 37, 137},
            {4, 720, 0, 0, 0, 20},
            {5, 2, 30, 0, 0, 30},
        };
        for (int[] row : want) {
            for (int what = 0; what <= 4; what++) {
                CHECK.due("8: route(" + row[0] + ", " + what + ")", x.route(row[0], what), row[1 + what]);
            }
        }
        CHECK.due("8: route -1", x.route(-1, 0), -1);
        CHECK.due("8: route 8", x.route(8, 0), -1);
        CHECK.due("8: no route before a wrong what", x.route(8, 5), -1);
        CHECK.due("8: what -1", x.route(0, -1), -2);
        CHECK.due("8: what 5", x.route(7, 5), -2);
        CHECK.due("8: extremes", x.route(Integer.MAX_VALUE, Integer.MAX_VALUE), -1);
        CHECK.due("8: NONE is no route", x.route(LetterRuns.NONE, 4), -1);
    }

    private static void count(Counted x) {
        // the letters' machine was busy for four minutes, the flats' one for two, one of the staff for four
        int[] want = {4, 5, 187, 10, 8, 10, 30, 0, 1, 333, 1, 1, 480, 0, 15, 30, 10, 0, 6};
        for (int what = 0; what < want.length; what++) {
            CHECK.due("9: count(" + what + ")", x.count(what), want[what]);
        }
        CHECK.due("9: count(-1)", x.count(-1), -2);
        CHECK.due("9: count(19)", x.count(19), -2);
        CHECK.due("9: count(MIN)", x.count(Integer.MIN_VALUE), -2);
        CHECK.due("9: count(MAX)", x.count(Integer.MAX_VALUE), -2);
        x.put(Check.packed("l1>"));
        CHECK.due("9: count(17)", x.count(17), 3);
        x.wipe();
        CHECK.due("9: count(17)", x.count(17), 0);
    }

    private static void delayed(Counted x) {
        CHECK.due("10: delayed(0)", x.delayed(0), 16);
        CHECK.due("10: delayed(1)", x.delayed(1), 6);
        CHECK.due("10: delayed(2)", x.delayed(2), 9);
        CHECK.due("10: delayed(3)", x.delayed(3), 0);
        CHECK.due("10: delayed(4)", x.delayed(4), 0);
        CHECK.due("10: delayed(-1)", x.delayed(-1), -2);
        CHECK.due("10: delayed(5)", x.delayed(5), -2);
        CHECK.due("10: delayed(MIN)", x.delayed(Integer.MIN_VALUE), -2);
        CHECK.due("10: delayed(MAX)", x.delayed(Integer.MAX_VALUE), -2);
    }

    private static void queued(Counted x) {
        CHECK.due("11: queued(0, 0)", x.queued(0, 0), 1);
        CHECK.due("11: queued(0, 1)", x.queued(0, 1), 2);
        CHECK.due("11: queued(0, 2)", x.queued(0, 2), -1);
        CHECK.due("11: queued(0, -1)", x.queued(0, -1), -1);
        CHECK.due("11: queued(1, 0)", x.queued(1, 0), -1);
        CHECK.due("11: queued(2, 0), not come yet", x.queued(2, 0), -1);
        CHECK.due("11: queued(3, 0)", x.queued(3, 0), -1);
        CHECK.due("11: queued(-1, 0)", x.queued(-1, 0), -1);
        CHECK.due("11: extremes", x.queued(Integer.MAX_VALUE, Integer.MAX_VALUE), -1);
        CHECK.due("11: extremes", x.queued(0, Integer.MAX_VALUE), -1);
    }

    /** On a day that is asked for everything, the same is there as on one that isn't, also later. */
    private static void askingChangesNothing() {
        Run day = new Run().then(AnswersTest::busy);
        Run asked = day.copy().then(x -> {
            Run.state(x);
            return x.fault();
        });
        CHECK.due("6 to 11: nothing was put", asked.answer(Face::fault), 0);
        CHECK.due("6 to 11: nothing is recorded", asked.answer(x -> x.count(18)), 6);
        CHECK.holds("6 to 11: asking changes nothing", day.stateAndLater().equals(asked.stateAndLater()));
    }
}
