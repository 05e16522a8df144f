/**
 * Days in which the promises meet, worked out by hand from the document minute by minute: what the numbers are due to stands
 * beside them.
 */
public final class LongDaysTest {
    private static final Check CHECK = new Check("LongDaysTest");
    private static String day;

    public static void main(String[] args) {
        aDayWithOvertime();
        theEndOfTheDay();
        cutoffsWhileABatchIsEverywhere();
        fortyBatchesByTexts();
        CHECK.finish();
    }

    private static Counted begun(String name) {
        day = name;
        return new Counted();
    }

    private static void due(Counted x, String call, long got, long want) {
        CHECK.due(day + ", call " + x.calls() + ": " + call, got, want);
    }

    private static void set(Counted x, int setting, int value, int previous) {
        due(x, "set(" + setting + ", " + value + ")", x.set(setting, value), previous);
    }

    private static void mail(Counted x, int number, int shape, int pieces, int route, int minute) {
        due(x, "mail(" + number + ")", x.mail(shape, pieces, route, minute), number);
    }

    private static void cutoff(Counted x, int route, int minute, int previous) {
        due(x, "cutoff(" + route + ", " + minute + ")", x.cutoff(route, minute), previous);
    }

    private static void type(Counted x, String text) {
        int length = x.count(17);
        for (int start = 0; start < text.length(); start += 8) {
            int end = Math.min(text.length(), start + 8);
            due(x, "put", x.put(Check.packed(text.substring(start, end))), length + end);
        }
    }

    /** Lets one minute pass, takes it back, and lets it pass again. */
    private static void minute(Counted x, int now) {
        int changes = Math.min(x.count(18) + 1, 6);
        long costs = x.count(5);
        due(x, "pass(1)", x.pass(1), now);
        due(x, "undo()", x.undo(), changes - 1);
        due(x, "costs behind undo()", x.count(5), costs);
        due(x, "pass(1)", x.pass(1), now);
    }

    /** The batch, batches in the queue, minutes to set up and sorted pieces of a machine. */
    private static void machine(Counted x, int machine, int batch, int queue, int setUp, int sorted) {
        int[] want = {batch, queue, setUp, 0, sorted};
        for (int what = 0; what <= 4; what++) {
            if (what != 3) {
                due(x, "machine(" + machine + ", " + what + ")", x.machine(machine, what), want[what]);
            }
        }
    }

    private static void counts(Counted x, int rejects, int hands, int costs, int gone, int missed) {
        int[] want = {rejects, hands, costs, gone, missed};
        for (int i = 0; i < want.length; i++) {
            due(x, "count(" + (3 + i) + ")", x.count(3 + i), want[i]);
        }
    }

    /** Where the pieces of a batch are: machine, hands, sorted, gone; and how many missed the cutoff. */
    private static void pieces(Counted x, int batch, int... want) {
        for (int i = 0; i < want.length; i++) {
            due(x, "batch(" + batch + ", " + (4 + i) + ")", x.batch(batch, 4 + i), want[i]);
        }
    }

    private static void sortedIn(Counted x, int... minutes) {
        for (int batch = 0; batch < minutes.length; batch++) {
            due(x, "batch(" + batch + ", 10)", x.batch(batch, 10), minutes[batch]);
        }
    }

    private static void delays(Counted x, long... sets) {
        for (int delay = 0; delay < sets.length; delay++) {
            due(x, "delayed(" + delay + ")", x.delayed(delay), sets[delay]);
        }
    }

    // ---- a day with overtime

    /** SETUP 2, REJECT 100, one of the staff sorts 2 pieces; the shift ends at 12; speeds 20, 10 and 5. */
    private static void aDayWithOvertime() {
        Counted x = begun("a day with overtime");
        int[] settings = {2, 100, 1, 2, 12, 0, 20, 10, 5};
        int[] first = {3, 20, 2, 5, 480, 0, 50, 30, 10};
        for (int setting = 0; setting < settings.length; setting++) {
            set(x, setting, settings[setting], first[setting]);
        }
        mail(x, 0, 0, 50, 1, 0);
        mail(x, 1, 0, 30, 1, 0);
        mail(x, 2, 1, 25, 2, 1);
        mail(x, 3, 2, 8, 2, 2);
        mail(x, 4, 0, 10, 3, 3);
        cutoff(x, 1, 6, 720);
        cutoff(x, 2, 5, 720);
        theFirstMinutes(x);
        rejectsOfThreeMachines(x);
        aText(x);
        whatWouldBe(x);
        untilAllIsSorted(x);
        behindTheShift(x);
        whatOvertimeWouldDo(x);
        theRestOfTheDay(x);
    }

    private static void theFirstMinutes(Counted x) {
        x.pass(1);
        machine(x, 0, 0, 1, 1, 0);
        counts(x, 0, 0, 2, 0, 0);
        minute(x, 2);
        machine(x, 0, 0, 1, 0, 0);
        machine(x, 1, 2, 0, 1, 0);
        counts(x, 0, 0, 5, 0, 0);
        minute(x, 3);
        // 20 letters: 2 rejects, which the hands sort
        machine(x, 0, 0, 1, 0, 20);
        machine(x, 1, 2, 0, 0, 0);
        machine(x, 2, 3, 0, 1, 0);
        counts(x, 2, 0, 9, 0, 0);
        minute(x, 4);
        // 50 pieces: 2 more letters and a flat were rejected; the flat is left
        machine(x, 0, 0, 2, 0, 40);
        machine(x, 1, 2, 0, 0, 10);
        machine(x, 2, 3, 0, 0, 0);
        counts(x, 5, 1, 13, 0, 0);
        delays(x, 0, 18, 13, 0, 0);
    }

    private static void rejectsOfThreeMachines(Counted x) {
        set(x, LetterRuns.SETUP, 1, 2);
        set(x, LetterRuns.REJECT, 300, 100);
        minute(x, 5);
        // of 300: 50 to 60 letters 15 to 18, to 70 with flats 21, to 75 with parcels 22; the hands go on with batch 2
        machine(x, 0, -6, 2, 0, 50);
        machine(x, 1, 2, 0, 0, 20);
        machine(x, 2, 3, 0, 0, 5);
        counts(x, 12, 6, 17, 0, 0);
        pieces(x, 0, 0, 3, 47, 0, 0);
        pieces(x, 2, 5, 2, 18, 0, 0);
        pieces(x, 3, 3, 1, 4, 0, 0);
        minute(x, 6);
        // the cutoff of route 2; the letters go on with the same route, 95 pieces: 28, flats to 100: 30, parcels: none
        machine(x, 0, 1, 1, 0, 70);
        machine(x, 1, -6, 0, 0, 25);
        machine(x, 2, -6, 0, 0, 8);
        counts(x, 20, 12, 21, 22, 11);
        pieces(x, 1, 10, 6, 14, 0, 0);
        pieces(x, 2, 0, 2, 5, 18, 7);
        pieces(x, 3, 0, 1, 3, 4, 4);
    }

    private static void aText(Counted x) {
        type(x, "s3;f12>2@7;c2=9;t01");
        due(x, "fault()", x.fault(), 18);
        due(x, "carryOut()", x.carryOut(), -3);
        due(x, "wipe()", x.wipe(), 19);
        type(x, "s3;f12>2@7;c2=9;t1");
        due(x, "fault()", x.fault(), -6);
        due(x, "carryOut()", x.carryOut(), 4);
        due(x, "count(0)", x.count(0), 7);
        // in the cutoff of route 1 with 3 and 16 pieces elsewhere; 6 by hand: 2, 3 and 1 of batches 2, 0 and 3
        machine(x, 0, -6, 1, 0, 80);
        counts(x, 23, 9, 25, 83, 30);
        pieces(x, 0, 0, 0, 3, 47, 3);
        pieces(x, 1, 0, 9, 7, 14, 16);
        due(x, "undo()", x.undo(), 5);
        counts(x, 20, 12, 21, 22, 11);
        due(x, "count(1)", x.count(1), 5);
        due(x, "route(2, 0)", x.route(2, 0), 5);
        type(x, "s3;f12>2@7;c2=9;t1;l1>1@6;s20");
        due(x, "carryOut() up to the mail for minute 6", x.carryOut(), 4);
        due(x, "the staff", x.count(10), 3);
    }

    /** Flats come at 7: 3 rejects behind 9 letters, one more at 8, and the hands sort 6 in a minute before the cutoff at 9. */
    private static void whatWouldBe(Counted x) {
        due(x, "sortedAt()", x.sortedAt(), 10);
        due(x, "wouldMiss()", x.wouldMiss(), 31);
        // 13 pieces in two minutes by hand: 4 of the staff; one alone does not get to batch 4 before the shift ends
        int[][] staff = {{29, -6}, {30, 4}, {31, 3}, {33, 3}, {34, 2}, {36, 2}, {37, 0}};
        for (int[] row : staff) {
            due(x, "least(STAFF, " + row[0] + ")", x.least(LetterRuns.STAFF, row[0]), row[1]);
        }
        // whatever the speed, 4 of 12 flats are rejected; by 5 in a minute 2 are with the machine, but 3 are rejected
        int[][] speed = {{30, -6}, {31, 6}, {32, 5}, {33, 5}, {34, 4}};
        for (int[] row : speed) {
            due(x, "least(SPEED1, " + row[0] + ")", x.least(LetterRuns.SPEED1, row[0]), row[1]);
        }
    }

    private static void untilAllIsSorted(Counted x) {
        minute(x, 8);
        machine(x, 0, 4, 0, 0, 80);
        machine(x, 1, 5, 0, 0, 35);
        counts(x, 26, 6, 30, 83, 30);
        minute(x, 9);
        machine(x, 0, -6, 0, 0, 90);
        machine(x, 1, -6, 0, 0, 37);
        counts(x, 30, 4, 35, 83, 30);
        minute(x, 10);
        counts(x, 30, 0, 38, 105, 31);
        due(x, "sortedAt()", x.sortedAt(), 10);
        sortedIn(x, 6, 8, 6, 6, 9, 9);
        delays(x, 0, 18, 13, 32, 0);
    }

    private static void behindTheShift(Counted x) {
        mail(x, 6, 2, 20, 4, 11);
        cutoff(x, 4, 17, 720);
        set(x, LetterRuns.REJECT, 500, 300);
        minute(x, 11);
        counts(x, 30, 0, 41, 105, 31);
        minute(x, 12);
        machine(x, 2, 6, 0, 0, 8);
        due(x, "count(5)", x.count(5), 45);
        minute(x, 13);
        // 135 to 140 pieces: 3 rejects, and nobody is there
        machine(x, 2, 6, 0, 0, 13);
        counts(x, 33, 3, 46, 105, 31);
        set(x, LetterRuns.OVER, 1, 0);
        minute(x, 14);
        counts(x, 35, 0, 53, 105, 31);
        set(x, LetterRuns.STAFF, 1, 3);
        minute(x, 15);
        counts(x, 38, 1, 56, 105, 31);
        set(x, LetterRuns.OVER, 0, 1);
        minute(x, 16);
        machine(x, 2, -6, 0, 0, 28);
        counts(x, 40, 3, 57, 105, 31);
        pieces(x, 6, 0, 3, 17, 0, 0);
    }

    private static void whatOvertimeWouldDo(Counted x) {
        due(x, "save(0)", x.save(0), 7);
        due(x, "sortedAt()", x.sortedAt(), -6);
        due(x, "wouldMiss()", x.wouldMiss(), 34);
        due(x, "least(STAFF, 33)", x.least(LetterRuns.STAFF, 33), -6);
        set(x, LetterRuns.OVER, 1, 0);
        due(x, "sortedAt()", x.sortedAt(), 18);
        due(x, "wouldMiss()", x.wouldMiss(), 32);
        int[][] staff = {{30, -6}, {31, 2}, {32, 1}, {33, 1}, {34, 0}};
        for (int[] row : staff) {
            due(x, "least(STAFF, " + row[0] + ")", x.least(LetterRuns.STAFF, row[0]), row[1]);
        }
        set(x, LetterRuns.STAFF, 2, 1);
        minute(x, 17);
        counts(x, 40, 0, 61, 105, 31);
        minute(x, 18);
        counts(x, 40, 0, 61, 125, 31);
        pieces(x, 6, 0, 0, 0, 20, 0);
    }

    private static void theRestOfTheDay(Counted x) {
        due(x, "restore(0)", x.restore(0), 7);
        due(x, "pass(1424)", x.pass(1424), 1440);
        // 17 parcels at 17, 10 letters of batch 4 at 720
        counts(x, 40, 3, 57, 132, 34);
        due(x, "sortedAt()", x.sortedAt(), -6);
        due(x, "wouldMiss()", x.wouldMiss(), 34);
        due(x, "least(STAFF, 33)", x.least(LetterRuns.STAFF, 33), -6);
        due(x, "least(SPEED2, 34)", x.least(LetterRuns.SPEED2, 34), 1);
        due(x, "pass(1)", x.pass(1), -5);
        due(x, "cutoff(0, 1439)", x.cutoff(0, 1439), -2);
        due(x, "mail", x.mail(0, 1, 0, 1439), -2);
        due(x, "undo()", x.undo(), 5);
        due(x, "undo()", x.undo(), 4);
        counts(x, 40, 0, 61, 125, 31);
        int[] setUps = {2, 1, 2};
        for (int machine = 0; machine < 3; machine++) {
            due(x, "machine(" + machine + ", 5)", x.machine(machine, 5), setUps[machine]);
        }
    }

    // ---- the end of the day

    /** SETUP 1, REJECT 500, one of the staff sorts 3 pieces, the shift ends at 1436; 4 flats in a minute. */
    private static void theEndOfTheDay() {
        Counted x = begun("the end of the day");
        due(x, "pass(1430)", x.pass(1430), 1430);
        due(x, "480 minutes of two", x.count(5), 960);
        set(x, LetterRuns.SHIFT, 1436, 480);
        set(x, LetterRuns.SETUP, 1, 3);
        set(x, LetterRuns.REJECT, 500, 20);
        set(x, LetterRuns.STAFF, 1, 2);
        set(x, LetterRuns.HAND, 3, 5);
        set(x, LetterRuns.SPEED1, 4, 30);
        mail(x, 0, 1, 20, 0, 1431);
        mail(x, 1, 1, 6, 5, 1433);
        mail(x, 2, 1, 3, 0, 1438);
        mail(x, 3, 0, 5, 7, 1439);
        cutoff(x, 0, 1436, 720);
        cutoff(x, 5, 1439, 720);
        int[][] minutes = {
            // now, rejects, hands, costs, pieces of batch 0 with the machine, sorted
            {1431, 0, 0, 961, 20, 0}, {1432, 0, 0, 963, 20, 0}, {1433, 2, 0, 965, 16, 4}, {1434, 4, 0, 967, 12, 8},
            {1435, 6, 0, 969, 8, 12}, {1436, 8, 0, 971, 4, 16}
        };
        for (int[] row : minutes) {
            minute(x, row[0]);
            counts(x, row[1], row[2], row[3], 0, 0);
            pieces(x, 0, row[4], 0, row[5], 0, 0);
        }
        minute(x, 1437);
        counts(x, 10, 2, 972, 16, 4);
        pieces(x, 0, 0, 2, 2, 16, 4);
        due(x, "batch(0, 10)", x.batch(0, 10), -6);
        whatTheLastMinutesWouldDo(x);
        theLastMinutes(x);
    }

    private static void whatTheLastMinutesWouldDo(Counted x) {
        // 4 of batch 0; batches 2 and 3 come behind their cutoffs; of batch 1 two are sorted by the machine before 1439
        due(x, "wouldMiss()", x.wouldMiss(), 16);
        due(x, "least(STAFF, 15)", x.least(LetterRuns.STAFF, 15), -6);
        set(x, LetterRuns.OVER, 1, 0);
        due(x, "sortedAt()", x.sortedAt(), -6);
        due(x, "wouldMiss()", x.wouldMiss(), 14);
        int[][] staff = {{13, -6}, {14, 1}, {15, 1}, {16, 0}};
        for (int[] row : staff) {
            due(x, "least(STAFF, " + row[0] + ")", x.least(LetterRuns.STAFF, row[0]), row[1]);
        }
        int[][] speed = {{11, -6}, {12, 6}, {13, 5}, {14, 4}, {15, 3}, {16, 2}, {17, 1}};
        for (int[] row : speed) {
            due(x, "least(SPEED1, " + row[0] + ")", x.least(LetterRuns.SPEED1, row[0]), row[1]);
        }
        due(x, "least(SPEED0, 14)", x.least(LetterRuns.SPEED0, 14), 1);
        due(x, "least(SPEED0, 13)", x.least(LetterRuns.SPEED0, 13), -6);
    }

    private static void theLastMinutes(Counted x) {
        due(x, "save(1)", x.save(1), 4);
        minute(x, 1438);
        counts(x, 10, 0, 975, 16, 4);
        due(x, "batch(0, 10)", x.batch(0, 10), 1437);
        machine(x, 1, 1, 0, 0, 20);
        minute(x, 1439);
        counts(x, 12, 0, 978, 16, 7);
        pieces(x, 1, 2, 0, 4, 0, 0);
        pieces(x, 2, 3, 0, 0, 0, 3);
        minute(x, 1440);
        counts(x, 13, 0, 982, 20, 14);
        pieces(x, 1, 0, 0, 2, 4, 2);
        pieces(x, 3, 5, 0, 0, 0, 5);
        machine(x, 0, 3, 0, 0, 0);
        machine(x, 1, -6, 1, 0, 26);
        due(x, "queued(1, 0)", x.queued(1, 0), 2);
        delays(x, 0, 2, 1, 0, 12);
        due(x, "batch(1, 10)", x.batch(1, 10), 1439);
        due(x, "sortedAt()", x.sortedAt(), -6);
        type(x, "t1");
        due(x, "carryOut()", x.carryOut(), 0);
        due(x, "undo() of nothing", x.undo(), 5);
        due(x, "count(0)", x.count(0), 1440);
        due(x, "set() is a change yet", x.set(LetterRuns.OVER, 0), 1);
        due(x, "restore(1)", x.restore(1), 4);
        set(x, LetterRuns.OVER, 0, 1);
        due(x, "pass(3)", x.pass(3), 1440);
        counts(x, 13, 5, 976, 18, 16);
    }

    // ---- cutoffs while a batch is in the queue, set up, sorted and with the hands

    /** SETUP 2, REJECT 500, one of the staff sorts one piece, 4 letters in a minute; four batches of 6. */
    private static void cutoffsWhileABatchIsEverywhere() {
        Counted x = begun("cutoffs");
        set(x, LetterRuns.SETUP, 2, 3);
        set(x, LetterRuns.REJECT, 500, 20);
        set(x, LetterRuns.STAFF, 1, 2);
        set(x, LetterRuns.HAND, 1, 5);
        set(x, LetterRuns.SPEED0, 4, 50);
        for (int batch = 0; batch < 4; batch++) {
            mail(x, batch, 0, 6, batch, 0);
        }
        due(x, "pass(2)", x.pass(2), 2);
        cutoff(x, 0, 3, 720);
        cutoff(x, 1, 4, 720);
        cutoff(x, 2, 5, 720);
        minute(x, 3);
        pieces(x, 0, 2, 1, 3, 0, 0);
        cutoff(x, 3, 3, 720);
        due(x, "wouldMiss()", x.wouldMiss(), 21);
        minute(x, 4);
        // at the cutoff 2 were with the machine and 1 with the hands; all of batch 3 was in the queue
        pieces(x, 0, 0, 1, 2, 3, 3);
        pieces(x, 3, 6, 0, 0, 0, 6);
        minute(x, 5);
        pieces(x, 0, 0, 0, 3, 3, 3);
        pieces(x, 1, 6, 0, 0, 0, 6);
        machine(x, 0, 1, 2, 1, 6);
        cutoff(x, 1, 8, 4);
        cutoff(x, 0, 7, 3);
        minute(x, 6);
        pieces(x, 2, 6, 0, 0, 0, 6);
        set(x, LetterRuns.SPEED0, 6, 4);
        minute(x, 7);
        pieces(x, 1, 0, 2, 4, 0, 6);
        minute(x, 8);
        pieces(x, 0, 0, 0, 0, 6, 3);
        pieces(x, 1, 0, 1, 5, 0, 6);
        set(x, LetterRuns.SETUP, 0, 2);
        minute(x, 9);
        pieces(x, 1, 0, 0, 1, 5, 6);
        machine(x, 0, 2, 1, 0, 12);
        minute(x, 10);
        pieces(x, 2, 0, 2, 4, 0, 6);
        minute(x, 11);
        // batch 3 was set up in no time
        pieces(x, 2, 0, 1, 5, 0, 6);
        pieces(x, 3, 0, 3, 3, 0, 6);
        counts(x, 12, 4, 22, 11, 21);
        due(x, "machine(0, 5)", x.machine(0, 5), 3);
        due(x, "machine(0, 3)", x.machine(0, 3), 3);
        laterCutoffs(x);
    }

    private static void laterCutoffs(Counted x) {
        cutoff(x, 2, 12, 5);
        cutoff(x, 3, 13, 3);
        due(x, "sortedAt()", x.sortedAt(), 15);
        due(x, "wouldMiss()", x.wouldMiss(), 21);
        due(x, "least(STAFF, 20)", x.least(LetterRuns.STAFF, 20), -6);
        due(x, "least(STAFF, 21)", x.least(LetterRuns.STAFF, 21), 0);
        minute(x, 12);
        pieces(x, 2, 0, 0, 6, 0, 6);
        minute(x, 13);
        pieces(x, 2, 0, 0, 0, 6, 6);
        pieces(x, 3, 0, 2, 4, 0, 6);
        minute(x, 14);
        pieces(x, 3, 0, 1, 1, 4, 6);
        minute(x, 15);
        pieces(x, 3, 0, 0, 2, 4, 6);
        counts(x, 12, 0, 26, 21, 21);
        sortedIn(x, 4, 8, 11, 14);
        delays(x, 0, 14, 1, 0, 0);
        due(x, "sortedAt()", x.sortedAt(), 15);
        for (int route = 0; route < 4; route++) {
            int[] want = {new int[] {7, 8, 12, 13}[route], route == 1 ? 5 : route == 3 ? 4 : 6, route == 0 ? 3 : 6,
                route == 1 ? 1 : route == 3 ? 2 : 0, 6};
            for (int what = 0; what <= 4; what++) {
                due(x, "route(" + route + ", " + what + ")", x.route(route, what), want[what]);
            }
        }
    }

    // ---- forty batches by texts

    /** One batch of 9 letters in a minute; of 1000 pieces 100 are rejected, and the hands sort one in a minute. */
    private static void fortyBatchesByTexts() {
        Counted x = begun("forty batches");
        set(x, LetterRuns.SETUP, 0, 3);
        set(x, LetterRuns.REJECT, 100, 20);
        set(x, LetterRuns.STAFF, 1, 2);
        set(x, LetterRuns.HAND, 1, 5);
        String eleven = "l9>0@0;".repeat(10) + "l9>0@0";
        for (int text = 0; text < 3; text++) {
            type(x, eleven);
            due(x, "carryOut()", x.carryOut(), 11);
        }
        type(x, eleven + ";t1");
        due(x, "a pad of 79", x.count(17), 79);
        due(x, "put() of two", x.put(Check.packed(";;")), -4);
        due(x, "carryOut() up to the 41st batch", x.carryOut(), 7);
        due(x, "count(0)", x.count(0), 0);
        due(x, "count(1)", x.count(1), 40);
        due(x, "count(2)", x.count(2), 360);
        type(x, "c0=20;t10");
        due(x, "carryOut()", x.carryOut(), 2);
        counts(x, 9, 0, 20, 0, 0);
        machine(x, 0, -6, 30, 0, 90);
        delays(x, 1, (1L << 40) - 2, 0, 0, 0);
        due(x, "sortedAt()", x.sortedAt(), 40);
        due(x, "wouldMiss()", x.wouldMiss(), 180);
        // without staff 9 of the next 10 batches have a piece with the hands at the cutoff
        int[][] staff = {{179, -6}, {180, 1}, {188, 1}, {189, 0}};
        for (int[] row : staff) {
            due(x, "least(STAFF, " + row[0] + ")", x.least(LetterRuns.STAFF, row[0]), row[1]);
        }
        due(x, "least(SPEED0, 180)", x.least(LetterRuns.SPEED0, 180), 9);
        due(x, "least(SPEED0, 179)", x.least(LetterRuns.SPEED0, 179), -6);
        due(x, "pass(10)", x.pass(10), 20);
        counts(x, 18, 0, 40, 0, 0);
        minute(x, 21);
        counts(x, 18, 0, 42, 180, 180);
        due(x, "pass(19)", x.pass(19), 40);
        counts(x, 36, 0, 80, 180, 180);
        due(x, "queued(0, 0)", x.queued(0, 0), -1);
        for (int batch = 0; batch < 40; batch++) {
            due(x, "batch(" + batch + ", 10)", x.batch(batch, 10), batch);
        }
        undoTheTexts(x);
    }

    private static void undoTheTexts(Counted x) {
        int[][] before = {{21, 40}, {20, 40}, {10, 40}, {0, 40}, {0, 33}, {0, 22}};
        for (int undone = 0; undone < before.length; undone++) {
            due(x, "undo()", x.undo(), 5 - undone);
            due(x, "the minute", x.count(0), before[undone][0]);
            due(x, "batches", x.count(1), before[undone][1]);
        }
        due(x, "undo()", x.undo(), -5);
        due(x, "the cutoff", x.route(0, 0), 720);
        due(x, "all 22 are in time", x.wouldMiss(), 0);
        due(x, "sortedAt()", x.sortedAt(), 22);
        mail(x, 22, 0, 9, 0, 0);
    }
}
