/** Sentences of "A minute": its steps 1 to 5, its end and the first delay. */
public final class EdgesOfMinutesTest extends Sentences {
    public static void main(String[] args) throws Exception {
        new EdgesOfMinutesTest().run();
    }

    // ---- step 1

    void step1Queues() {
        sentence("Terms", "Batches that come in this minute are put at the end of the queue of the machine of their shape, in the order of their numbers.");
        Counted x = plain(30, 0, 0, 1);
        x.mail(0, 10, 0, 5);
        x.mail(0, 10, 0, 4);
        x.mail(0, 10, 0, 5);
        x.mail(1, 10, 0, 4);
        x.mail(1, 10, 0, 5);
        x.mail(0, 10, 0, 5);
        x.pass(4);
        due("none comes before its minute", x.machine(0, 0), NONE);
        due("none comes before its minute", x.machine(0, 1), 0);
        x.pass(1);
        due("the letters that came first", x.machine(0, 0), 1);
        due("the flats that came first", x.machine(1, 0), 3);
        due("none comes before its minute", x.machine(0, 1), 0);
        x.pass(1);
        int[] queue = {0, 2, 5, NO_SUCH};
        for (int place = 0; place < queue.length; place++) {
            due("queued(0, " + place + ")", x.queued(0, place), queue[place]);
        }
        due("queued(1, 0)", x.queued(1, 0), 4);
        due("queued(2, 0)", x.queued(2, 0), NO_SUCH);
        x.mail(0, 10, 0, 7);
        x.mail(0, 10, 0, 6);
        x.pass(1);
        due("told for the minute of now", x.queued(0, 3), 7);
        due("a lower number that is not there yet", x.queued(0, 4), NO_SUCH);
        x.pass(1);
        due("a lower number that comes later", x.queued(0, 4), 6);
    }

    void step1All40Queue() {
        sentence("Terms", "are put at the end of the queue of the machine of their shape");
        for (int shape = 0; shape < 3; shape++) {
            Counted x = plain(30, 0, 0, 1);
            for (int batch = 0; batch < 40; batch++) {
                x.mail(shape, 1, 0, 1439);
            }
            x.pass(1440);
            due("the machine has the first one", x.machine(shape, 0), 0);
            due("all others are in the queue", x.machine(shape, 1), 39);
            for (int place = 0; place < 39; place++) {
                due("place " + place, x.queued(shape, place), place + 1);
            }
            due("no place more", x.queued(shape, 39), NO_SUCH);
        }
    }

    void step1BehindTheCutoff() {
        sentence("Terms", "A batch that comes behind the minute of the cutoff of its route has missed it with all its pieces.");
        Counted x = plain(0, 0, 0, 1);
        x.cutoff(3, 10);
        x.mail(0, 50, 3, 9);
        x.mail(1, 999, 3, 11);
        x.mail(2, 1, 3, 1439);
        x.mail(1, 5, 4, 11);
        x.pass(11);
        pieces("it came before the minute", x, 0, 0, 0, 0, 50, 0);
        pieces("it has not come", x, 1, 999, 0, 0, 0, 0);
        x.pass(1);
        pieces("it came behind the minute", x, 1, 969, 0, 30, 0, 999);
        pieces("another route", x, 3, 5, 0, 0, 0, 0);
        pieces("it has not come", x, 2, 1, 0, 0, 0, 0);
        x.pass(1428);
        pieces("it came behind the minute, in the last one", x, 2, 0, 0, 1, 0, 1);
        int[][] changed = {{19, 30}, {20, 30}, {21, 0}};
        for (int[] row : changed) {
            Counted y = plain(0, 0, 0, 1);
            y.cutoff(3, 10);
            y.mail(1, 30, 3, 20);
            y.pass(15);
            y.cutoff(3, row[0]);
            y.pass(7);
            due("the cutoff is " + row[0] + " when it comes", y.batch(0, 8), row[1]);
        }
    }

    // ---- step 2

    void step2SortedPiecesAreGone() {
        sentence("Terms", "Of each route whose cutoff is this minute all sorted pieces are gone.");
        Counted x = plain(0, 0, 0, 1);
        x.cutoff(0, 6);
        x.cutoff(1, 7);
        x.mail(0, 50, 0, 4);
        x.mail(1, 30, 0, 5);
        x.mail(2, 10, 0, 6);
        x.mail(0, 50, 1, 5);
        x.pass(6);
        due("none is gone before the minute", x.count(6), 0);
        x.pass(1);
        pieces("sorted long before it", x, 0, 0, 0, 0, 50, 0);
        pieces("sorted in the minute before", x, 1, 0, 0, 0, 30, 0);
        pieces("sorted in this minute", x, 2, 0, 0, 10, 0, 10);
        pieces("another route", x, 3, 0, 0, 50, 0, 0);
        x.pass(1);
        pieces("sorted in the minute of the cutoff", x, 2, 0, 0, 10, 0, 10);
        pieces("the other route's minute", x, 3, 0, 0, 0, 50, 0);
        Counted last = plain(0, 0, 0, 1);
        last.cutoff(7, 1439);
        last.mail(0, 50, 7, 1438);
        last.pass(1439);
        pieces("before the last minute", last, 0, 0, 0, 50, 0, 0);
        last.pass(1);
        pieces("a cutoff in the last minute", last, 0, 0, 0, 0, 50, 0);
        Counted first = plain(0, 0, 0, 1);
        first.cutoff(0, 0);
        first.mail(0, 50, 0, 0);
        first.pass(1);
        pieces("a cutoff in the first minute", first, 0, 0, 0, 50, 0, 50);
    }

    void step2OthersHaveMissedIt() {
        sentence("Terms", "Of each of its batches, that has come, pieces that are not gone then have missed it");
        Counted x = plain(0, 0, 0, 1);
        x.set(SPEED0, 10);
        x.cutoff(2, 3);
        x.mail(0, 30, 2, 0);
        x.mail(1, 91, 2, 0);
        x.mail(2, 5, 2, 3);
        x.mail(2, 5, 2, 4);
        x.mail(2, 5, 1, 0);
        x.pass(3);
        due("none has missed it before the minute", x.count(7), 0);
        x.pass(1);
        pieces("the last piece is sorted in the minute before", x, 0, 0, 0, 0, 30, 0);
        pieces("one piece more", x, 1, 0, 0, 1, 90, 1);
        pieces("it comes in this minute", x, 2, 0, 0, 5, 0, 5);
        pieces("it has not come", x, 3, 5, 0, 0, 0, 0);
        pieces("it is of another route", x, 4, 0, 0, 5, 0, 0);
        Counted hands = plain(0, 500, 1, 1);
        hands.cutoff(2, 3);
        hands.mail(0, 8, 2, 0);
        hands.pass(4);
        pieces("pieces with the hands are not gone", hands, 0, 0, 0, 1, 7, 1);
    }

    void step2MissedStays() {
        sentence("Terms", "what has missed a cutoff stays so, also if there is a later one then");
        Counted x = plain(0, 0, 0, 1);
        x.set(SPEED0, 10);
        x.cutoff(2, 3);
        x.mail(0, 45, 2, 0);
        x.mail(1, 7, 2, 4);
        x.pass(5);
        pieces("missed in step 2", x, 0, 0, 0, 15, 30, 15);
        pieces("missed in step 1", x, 1, 0, 0, 7, 0, 7);
        x.cutoff(2, 5);
        pieces("a later one is told", x, 0, 0, 0, 15, 30, 15);
        x.mail(1, 4, 2, 5);
        x.pass(1);
        pieces("all are gone, and have missed the first one", x, 0, 0, 0, 0, 45, 15);
        pieces("all are gone, and have missed the first one", x, 1, 0, 0, 0, 7, 7);
        pieces("they missed this one alone", x, 2, 0, 0, 4, 0, 4);
        due("the route", x.route(2, 2), 26);
        Counted some = plain(0, 0, 0, 1);
        some.set(SPEED0, 10);
        some.cutoff(2, 1);
        some.mail(0, 100, 2, 0);
        some.pass(2);
        pieces("90 of 100", some, 0, 80, 0, 10, 10, 90);
        some.cutoff(2, 4);
        some.pass(3);
        pieces("fewer miss the later one", some, 0, 50, 0, 10, 40, 90);
    }

    // ---- step 3

    void step3ByShape() {
        sentence("Terms", "Each machine, by its shape");
        Counted x = plain(0, 500, 0, 1);
        x.mail(2, 1, 0, 0);
        x.mail(1, 1, 0, 0);
        x.mail(0, 1, 0, 0);
        x.pass(1);
        due("the second piece is the flat", x.delayed(3), 2);
        Counted row = plain(0, 500, 0, 1);
        row.mail(2, 2, 0, 0);
        row.mail(1, 2, 0, 0);
        row.mail(0, 2, 0, 0);
        row.pass(1);
        row.set(STAFF, 1);
        int[] sorted = {2, 1, 0};
        for (int minute = 0; minute < 3; minute++) {
            row.pass(1);
            due("the hands get letters, flats and parcels", row.batch(sorted[minute], 10), 1 + minute);
        }
    }

    void step3TakesTheFirst() {
        sentence("Terms", "if it has no batch, it takes the first one of its queue");
        Counted x = plain(0, 0, 0, 1);
        x.mail(0, 1, 0, 0);
        x.mail(0, 51, 0, 0);
        x.mail(0, 1, 0, 0);
        int[][] want = {{NONE, 2, 1}, {1, 1, 2}, {NONE, 1, 2}, {NONE, 0, NO_SUCH}};
        for (int minute = 0; minute < want.length; minute++) {
            x.pass(1);
            due("its batch behind minute " + minute, x.machine(0, 0), want[minute][0]);
            due("its queue behind minute " + minute, x.machine(0, 1), want[minute][1]);
            due("the first one behind minute " + minute, x.queued(0, 0), want[minute][2]);
        }
        due("one batch in a minute, however small", x.batch(0, 10), 0);
        due("the next one in two", x.batch(1, 10), 2);
        due("the last one", x.batch(2, 10), 3);
    }

    void step3SetUpForAnotherRoute() {
        sentence("Terms", "it has to be set up, SETUP minutes, if this batch has another route than the one that it had last (also if it had none so far)");
        Counted x = plain(2, 0, 0, 1);
        x.mail(0, 1, 0, 0);
        x.mail(0, 1, 0, 0);
        x.mail(0, 1, 7, 0);
        x.mail(0, 1, 0, 0);
        x.mail(0, 1, 0, 500);
        x.mail(1, 1, 0, 500);
        x.pass(600);
        int[] sortedIn = {2, 3, 6, 9, 500, 502};
        for (int batch = 0; batch < sortedIn.length; batch++) {
            due("batch " + batch + " is sorted", x.batch(batch, 10), sortedIn[batch]);
        }
        due("set up", x.machine(0, 5), 3);
        due("another machine had none so far", x.machine(1, 5), 1);
        Counted changed = plain(2, 0, 0, 1);
        changed.mail(0, 1, 3, 0);
        changed.pass(1);
        changed.set(SETUP, 30);
        changed.pass(1);
        due("SETUP as it was when the batch was taken", changed.machine(0, 2), 0);
        Counted none = plain(0, 0, 0, 1);
        none.mail(0, 1, 3, 0);
        none.mail(0, 1, 3, 1);
        none.pass(1);
        none.set(SETUP, 5);
        none.pass(1);
        due("it had this route last, also if it was set up in no time", none.batch(1, 10), 1);
    }

    void step3ThisMinuteIsOne() {
        sentence("Terms", "If it has to be set up for some minutes yet, this minute is one of them, and nothing else is done.");
        int[] setups = {1, 2, 30};
        for (int setup : setups) {
            Counted x = plain(setup, 0, 0, 1);
            x.mail(2, 10, 0, 3);
            x.pass(3);
            for (int left = setup - 1; left >= 0; left--) {
                x.pass(1);
                due("minutes yet", x.machine(2, 2), left);
                due("nothing else is done", x.machine(2, 4), 0);
            }
            due("it has its batch", x.machine(2, 0), 0);
            x.pass(1);
            due("then it sorts", x.machine(2, 4), 10);
        }
    }

    void step3AsItsSpeedTells() {
        sentence("Terms", "Otherwise it sorts so many pieces of its batch as its speed tells, or all that are left.");
        int[][] left = {{6, 0, 0}, {7, 0, 0}, {8, 1, 0}, {14, 7, 0}, {15, 8, 1}};
        for (int[] row : left) {
            Counted x = plain(0, 0, 0, 1);
            x.set(SPEED1, 7);
            x.mail(1, row[0], 0, 0);
            x.mail(1, 1, 0, 0);
            for (int minute = 1; minute <= 2; minute++) {
                x.pass(1);
                due(row[0] + " pieces, minute " + minute, x.batch(0, 4), row[minute]);
            }
        }
        Counted x = plain(0, 0, 0, 1);
        x.mail(0, 20, 0, 0);
        x.set(SPEED0, 3);
        x.pass(1);
        x.set(SPEED0, 4);
        x.pass(1);
        due("as its speed tells in that minute", x.machine(0, 4), 7);
    }

    void step3RejectsOfAllMachines() {
        sentence("Terms", "Of the pieces that all machines sorted so far, REJECT of 1000 are rejects, rounded down");
        Counted x = new Counted();
        x.set(SETUP, 0);
        x.set(STAFF, 0);
        x.mail(0, 100, 0, 0);
        int[][] rejects = {{49, 0}, {1, 1}, {49, 1}, {1, 2}};
        for (int[] row : rejects) {
            x.set(SPEED0, row[0]);
            x.pass(1);
            due("20 in 1000, of " + x.machine(0, 4), x.count(3), row[1]);
        }
        Counted all = plain(0, 20, 0, 1);
        all.set(SPEED0, 10);
        all.set(SPEED1, 29);
        all.mail(0, 10, 0, 0);
        all.mail(1, 29, 0, 0);
        all.mail(2, 10, 0, 0);
        all.mail(0, 1, 0, 1);
        all.pass(1);
        due("49 of all machines", all.count(3), 0);
        all.pass(1);
        due("50 of all machines", all.count(3), 1);
        due("of the batch of that piece", all.delayed(3), 8);
    }

    void step3AsManyAsBecomeMore() {
        sentence("Terms", "as many as that becomes more by these pieces are rejected (but not more than these)");
        int[][] bySpeed = {{1, 0, 1, 1, 2}, {2, 1, 2, 3, 4}, {3, 1, 3, 4, 6}, {100, 50, 100, 150, 200}};
        for (int[] row : bySpeed) {
            Counted x = plain(0, 500, 0, 1);
            x.set(SPEED0, row[0]);
            x.mail(0, 999, 0, 0);
            for (int minute = 1; minute <= 4; minute++) {
                x.pass(1);
                due("by " + row[0] + ", minute " + minute, x.count(3), row[minute]);
            }
        }
        Counted changed = plain(0, 0, 0, 1);
        changed.mail(0, 999, 0, 0);
        changed.pass(2);
        changed.set(REJECT, 500);
        changed.set(SPEED0, 1);
        changed.pass(1);
        due("101 pieces, 50 as for 100 of them", changed.count(3), 0);
        changed.pass(1);
        due("102 pieces, one more", changed.count(3), 1);
        changed.set(REJECT, 0);
        changed.pass(5);
        due("none becomes more", changed.count(3), 1);
    }

    void step3ToTheRowOfTheHands() {
        sentence("Terms", "they come to the row of the hands: to the pieces of their batch, if some of them are there, otherwise to its end");
        Counted x = plain(0, 500, 0, 2);
        x.set(SPEED0, 4);
        x.set(SPEED1, 4);
        x.mail(0, 40, 0, 0);
        x.mail(1, 40, 0, 0);
        x.pass(2);
        pieces("4 of the letters come first", x, 0, 32, 4, 4, 0, 0);
        pieces("4 of the flats behind them", x, 1, 32, 4, 4, 0, 0);
        x.set(STAFF, 3);
        x.pass(1);
        pieces("to the pieces of their batch", x, 0, 28, 0, 12, 0, 0);
        pieces("to the pieces of their batch", x, 1, 28, 6, 6, 0, 0);
        x.pass(1);
        pieces("the letters are at its end now", x, 0, 24, 2, 14, 0, 0);
        pieces("the flats are the first ones", x, 1, 24, 2, 14, 0, 0);
    }

    void step3TheOthersAreSorted() {
        sentence("Terms", "the others are sorted");
        int[][] rejects = {{0, 0}, {20, 1}, {250, 12}, {500, 25}};
        for (int[] row : rejects) {
            Counted x = plain(0, row[0], 0, 1);
            x.mail(0, 50, 0, 0);
            x.pass(1);
            pieces(row[0] + " in 1000", x, 0, 0, row[1], 50 - row[1], 0, 0);
        }
    }

    void step3NoBatchAnyMore() {
        sentence("Terms", "If no pieces of the batch are left, the machine has no batch any more.");
        int[][] batch = {{49, NONE}, {50, NONE}, {51, 0}, {99, 0}};
        for (int[] row : batch) {
            Counted x = plain(0, 500, 0, 1);
            x.mail(0, row[0], 0, 0);
            x.pass(1);
            due("behind one minute, with " + row[0], x.machine(0, 0), row[1]);
            x.pass(1);
            due("behind two minutes, with " + row[0], x.machine(0, 0), NONE);
            due("also if the hands have some of it", x.batch(0, 5), row[0] / 2);
        }
    }

    // ---- step 4

    void step4ShiftOrOvertime() {
        sentence("Terms", "The hands, if the minute is less than SHIFT, or OVER is 1, sort");
        int[][] left = {{0, 0, 4}, {2, 0, 2}, {3, 0, 1}, {4, 0, 0}, {0, 1, 0}, {3, 1, 0}};
        for (int[] row : left) {
            Counted x = plain(0, 500, 1, 1);
            x.set(SHIFT, row[0]);
            x.set(OVER, row[1]);
            x.set(SPEED0, 2);
            x.mail(0, 8, 0, 0);
            x.pass(4);
            due("SHIFT " + row[0] + ", OVER " + row[1], x.count(4), row[2]);
        }
        Counted last = plain(0, 500, 1, 1);
        last.set(SHIFT, 1439);
        last.mail(0, 2, 0, 1439);
        last.save(0);
        last.pass(1440);
        due("the last minute is not in a shift to 1439", last.count(4), 1);
        last.restore(0);
        last.set(SHIFT, 1440);
        last.pass(1440);
        due("the last minute is in a shift to 1440", last.count(4), 0);
    }

    void step4StaffTimesHand() {
        sentence("Terms", "sort STAFF times HAND pieces, or all that there are, from the beginning of their row.");
        int[][] sorted = {{0, 50, 0}, {1, 6, 6}, {2, 3, 6}, {7, 3, 21}, {12, 2, 24}, {5, 5, 25}, {13, 2, 25}, {20, 50, 25}};
        for (int[] row : sorted) {
            Counted x = plain(0, 500, row[0], row[1]);
            x.mail(0, 50, 0, 0);
            x.pass(1);
            pieces(row[0] + " times " + row[1], x, 0, 0, 25 - row[2], 25 + row[2], 0, 0);
        }
        Counted row = plain(0, 500, 0, 1);
        for (int batch = 0; batch < 4; batch++) {
            row.mail(0, 6, 0, batch);
        }
        row.pass(4);
        row.set(STAFF, 5);
        row.pass(1);
        pieces("all of the first one", row, 0, 0, 0, 6, 0, 0);
        pieces("two of the second one", row, 1, 0, 1, 5, 0, 0);
        pieces("none of the third one", row, 2, 0, 3, 3, 0, 0);
        row.set(HAND, 50);
        row.pass(1);
        due("all that there are", row.count(4), 0);
        Counted all = plain(0, 500, 0, 50);
        for (int batch = 0; batch < 40; batch++) {
            all.mail(0, 50, 0, 0);
        }
        all.pass(40);
        due("of all 40 batches", all.count(4), 1000);
        all.set(STAFF, 19);
        all.save(0);
        all.pass(1);
        due("950 of them", all.count(4), 50);
        pieces("the last but two", all, 37, 0, 0, 50, 0, 0);
        pieces("the last but one", all, 38, 0, 25, 25, 0, 0);
        all.restore(0);
        all.set(STAFF, 20);
        all.pass(1);
        due("all of them", all.count(4), 0);
        pieces("the last one", all, 39, 0, 0, 50, 0, 0);
    }

    // ---- step 5 and the end of the minute

    void step5Machines() {
        sentence("Terms", "by 1 for each machine that has, or had in this minute, a batch");
        Counted x = plain(2, 0, 0, 1);
        x.mail(0, 51, 0, 1);
        x.mail(1, 1, 0, 2);
        x.mail(2, 1, 0, 2);
        int[] costs = {0, 1, 4, 7, 10, 10, 10};
        for (int minute = 0; minute < costs.length; minute++) {
            x.pass(1);
            due("behind minute " + minute, x.count(5), costs[minute]);
        }
        Counted once = plain(0, 0, 0, 1);
        once.mail(0, 1, 0, 0);
        once.pass(1);
        due("taken and sorted in one minute", once.count(5), 1);
        Counted hands = plain(0, 500, 0, 1);
        hands.mail(0, 2, 0, 0);
        hands.pass(10);
        due("not for what is with the hands", hands.count(5), 1);
    }

    void step5Staff() {
        sentence("Terms", "and for each of the staff by 1, if the minute is less than SHIFT");
        int[][] costs = {{0, 5, 0}, {1, 4, 4}, {1, 5, 5}, {1, 6, 5}, {20, 4, 80}, {20, 5, 100}, {3, 0, 0}};
        for (int[] row : costs) {
            Counted x = plain(0, 0, row[0], 1);
            x.set(SHIFT, row[1]);
            x.pass(5);
            due(row[0] + " in 5 minutes of a shift to " + row[1], x.count(5), row[2]);
            Counted over = plain(0, 0, row[0], 1);
            over.set(SHIFT, row[1]);
            over.set(OVER, 1);
            over.pass(5);
            due("the same with overtime", over.count(5), row[2]);
        }
        Counted busy = plain(0, 500, 3, 1);
        busy.set(OVER, 1);
        busy.mail(0, 50, 0, 0);
        busy.pass(2);
        due("in the shift by 1, also if there is something to do", busy.count(5), 7);
    }

    void step5Overtime() {
        sentence("Terms", "otherwise by 2, if OVER is 1 and there were pieces in the row of the hands in 4.");
        Counted x = plain(0, 500, 3, 1);
        x.set(SHIFT, 2);
        x.mail(0, 22, 0, 1);
        int[] shift = {3, 7, 7};
        for (int minute = 0; minute < shift.length; minute++) {
            x.pass(1);
            due("behind minute " + minute + ", OVER is 0", x.count(5), shift[minute]);
        }
        x.set(OVER, 1);
        int[] over = {13, 19, 25, 25};
        for (int minute = 0; minute < over.length; minute++) {
            x.pass(1);
            due("minute " + minute + " of the overtime, with the last pieces, and with none", x.count(5), over[minute]);
        }
        Counted rejected = plain(0, 500, 4, 50);
        rejected.set(SHIFT, 0);
        rejected.set(OVER, 1);
        rejected.mail(0, 2, 0, 3);
        rejected.pass(3);
        due("no pieces", rejected.count(5), 0);
        rejected.pass(1);
        due("pieces that came and were sorted in this minute", rejected.count(5), 9);
        Counted machine = plain(0, 0, 4, 50);
        machine.set(SHIFT, 0);
        machine.set(OVER, 1);
        machine.mail(0, 101, 0, 0);
        machine.pass(2);
        due("a machine alone has something to do", machine.count(5), 2);
        machine.set(REJECT, 500);
        machine.pass(1);
        due("half a reject is none", machine.count(5), 3);
        Counted nobody = plain(0, 500, 0, 1);
        nobody.set(SHIFT, 0);
        nobody.set(OVER, 1);
        nobody.mail(0, 2, 0, 0);
        nobody.pass(10);
        due("nobody of the staff", nobody.count(5), 1);
    }

    void endTheMinuteOfNow() {
        sentence("Terms", "Then the minute of now is one more (0 at first; the last one that passes is 1439).");
        Counted x = plain(0, 0, 0, 1);
        due("at first", x.count(0), 0);
        x.mail(0, 50, 0, 1439);
        due("pass(1)", x.pass(1), 1);
        due("one more", x.count(0), 1);
        due("pass(1438)", x.pass(1438), 1439);
        due("the last one has not passed", x.batch(0, 4), 50);
        due("pass(2)", x.pass(2), NOT_POSSIBLE);
        due("it is still 1439", x.count(0), 1439);
        due("pass(1)", x.pass(1), 1440);
        due("the last one has passed", x.batch(0, 10), 1439);
        refused(c -> c.pass(1440), "a minute behind the last one", c -> c.pass(1), NOT_POSSIBLE);
    }

    // ---- the first delay

    void delayIsTheFirst() {
        sentence("Terms", "The first delay of a batch is the first of these that happened to it");
        Counted x = plain(1, 500, 0, 1);
        x.cutoff(1, 5);
        x.mail(0, 50, 0, 0);
        x.mail(0, 50, 1, 0);
        x.mail(1, 50, 1, 5);
        x.mail(2, 50, 1, 6);
        x.pass(1);
        due("set up", x.batch(0, 9), 2);
        due("waited", x.batch(1, 9), 1);
        x.pass(20);
        due("set up, then rejected", x.batch(0, 9), 2);
        due("waited, then set up, then rejected, then behind the cutoff", x.batch(1, 9), 1);
        due("came late, then set up, then rejected", x.delayed(4), 12);
    }

    void delay1Waited() {
        sentence("Terms", "1: it was in a queue in 3 behind which its machine took another batch, or had one (it waited)");
        Counted x = plain(0, 0, 0, 1);
        x.mail(0, 50, 0, 2);
        x.mail(0, 51, 0, 2);
        x.mail(0, 1, 0, 4);
        x.mail(0, 1, 0, 6);
        x.mail(1, 1, 0, 2);
        x.pass(2);
        due("none has come", x.delayed(1), 0);
        x.pass(1);
        due("the machine took another one", x.delayed(1), 2);
        x.pass(2);
        due("the machine had one, if for this minute alone", x.delayed(1), 6);
        due("it has none then", x.machine(0, 0), NONE);
        x.pass(5);
        due("taken in the minute in which they came", x.delayed(0), 25);
        Counted many = plain(0, 0, 0, 1);
        many.mail(0, 200, 0, 0);
        for (int batch = 1; batch < 40; batch++) {
            many.mail(0, 1, 0, batch / 20);
        }
        many.pass(1);
        due("all that came behind it", many.delayed(1), 0xFFFFEL);
        many.pass(1);
        due("and all that came behind them", many.delayed(1), 0xFFFFFFFFFEL);
    }

    void delay2SetUp() {
        sentence("Terms", "2: its machine was being set up for it");
        int[][] delays = {{0, 0}, {1, 2}, {30, 2}};
        for (int[] row : delays) {
            Counted x = plain(row[0], 0, 0, 1);
            x.mail(0, 1, 0, 5);
            x.mail(0, 1, 0, 50);
            x.pass(5);
            due("before it comes", x.batch(0, 9), 0);
            x.pass(1);
            due("in its minute, SETUP " + row[0], x.batch(0, 9), row[1]);
            x.pass(100);
            due("the same route", x.batch(1, 9), 0);
        }
    }

    void delay3Rejected() {
        sentence("Terms", "3: pieces of it were rejected");
        int[][] delays = {{49, 0}, {50, 3}, {51, 3}};
        for (int[] row : delays) {
            Counted x = plain(0, 20, 2, 5);
            x.mail(0, row[0], 0, 0);
            x.pass(1);
            due(row[0] + " pieces", x.batch(0, 9), row[1]);
        }
        Counted later = plain(0, 20, 2, 5);
        later.set(SPEED0, 49);
        later.mail(0, 50, 0, 0);
        later.pass(1);
        due("before its 50th piece", later.batch(0, 9), 0);
        later.pass(1);
        due("with its 50th piece", later.batch(0, 9), 3);
    }

    void delay4CameLate() {
        sentence("Terms", "4: it came in the minute of the cutoff of its route or later (this is looked at first, as it comes)");
        int[][] delays = {{9, 2}, {10, 4}, {11, 4}, {1439, 4}};
        for (int[] row : delays) {
            Counted x = plain(1, 500, 0, 1);
            x.cutoff(6, 10);
            x.mail(0, 50, 6, row[0]);
            x.pass(row[0]);
            due("before it comes", x.delayed(0), 1);
            x.pass(1);
            due("it comes in minute " + row[0], x.batch(0, 9), row[1]);
        }
        Counted x = plain(1, 500, 0, 1);
        x.cutoff(6, 10);
        x.mail(0, 500, 5, 9);
        x.mail(0, 50, 6, 9);
        x.mail(0, 50, 6, 10);
        x.mail(0, 50, 5, 10);
        x.pass(11);
        due("looked at before it waits", x.delayed(4), 4);
        due("waited", x.delayed(1), 10);
        Counted later = plain(0, 0, 0, 1);
        later.mail(0, 500, 6, 9);
        later.pass(10);
        later.cutoff(6, 10);
        later.pass(5);
        due("it came before the cutoff, and missed it", later.batch(0, 9), 0);
        due("it missed it", later.batch(0, 8), 450);
    }

    void delay0None() {
        sentence("Terms", "0: none so far.");
        Counted x = plain(0, 0, 0, 1);
        x.mail(0, 999, 0, 0);
        x.mail(0, 1, 0, 100);
        x.mail(1, 1, 0, 1439);
        x.pass(1);
        due("sorted at once", x.delayed(0), 7);
        x.pass(1438);
        due("also if it was sorted", x.delayed(0), 7);
        x.pass(1);
        due("behind its cutoff", x.delayed(0), 3);
    }
}
