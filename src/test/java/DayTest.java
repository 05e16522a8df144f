/** The terms: what happens in a minute, by its steps, as promises 5 to 11 show it. */
public final class DayTest {
    private static final Check CHECK = new Check("DayTest");

    public static void main(String[] args) {
        queuesByNumber();
        cutoffs();
        missedStays();
        cutoffWhileItRuns();
        goneInTwoParts();
        setUps();
        setUpNone();
        oneMachineAtATime();
        rejects();
        rejectsOfAllMachines();
        rejectsAfterAChange();
        rowOfTheHands();
        rowOfTheHandsAgain();
        shiftAndOvertime();
        overtimeWithNothingByHand();
        costsOfMachines();
        freshBatch();
        fullCentre();
        firstDelays();
        CHECK.finish();
    }

    private static Counted plain(int setup, int reject, int staff, int hand) {
        Counted x = new Counted();
        x.set(LetterRuns.SETUP, setup);
        x.set(LetterRuns.REJECT, reject);
        x.set(LetterRuns.STAFF, staff);
        x.set(LetterRuns.HAND, hand);
        return x;
    }

    private static void row(String what, Counted x, int batch, int machine, int hands, int sorted, int gone, int missed) {
        CHECK.due(what + ": with the machine", x.batch(batch, 4), machine);
        CHECK.due(what + ": with the hands", x.batch(batch, 5), hands);
        CHECK.due(what + ": sorted", x.batch(batch, 6), sorted);
        CHECK.due(what + ": gone", x.batch(batch, 7), gone);
        CHECK.due(what + ": missed", x.batch(batch, 8), missed);
    }

    private static void queuesByNumber() {
        Counted x = plain(30, 0, 0, 1);
        x.mail(0, 10, 0, 3);
        x.mail(0, 10, 0, 2);
        x.mail(0, 10, 0, 0);
        x.mail(0, 10, 0, 2);
        x.mail(1, 10, 0, 2);
        x.pass(2);
        CHECK.due("step 1: not before its minute", x.machine(0, 1), 0);
        CHECK.due("step 1: the first one is taken at once", x.machine(0, 0), 2);
        x.pass(1);
        CHECK.due("step 1: queued(0, 0)", x.queued(0, 0), 1);
        CHECK.due("step 1: queued(0, 1)", x.queued(0, 1), 3);
        CHECK.due("step 1: the machine of the shape", x.machine(1, 0), 4);
        x.pass(1);
        CHECK.due("step 1: later ones at the end", x.queued(0, 2), 0);
        x.mail(0, 10, 0, 4);
        CHECK.due("step 1: told for now", x.machine(0, 1), 3);
        x.pass(1);
        CHECK.due("step 1: told for now", x.queued(0, 3), 5);
    }

    private static void cutoffs() {
        Counted x = plain(0, 0, 0, 1);
        for (int route = 0; route < 4; route++) {
            x.cutoff(route, 5);
        }
        x.mail(0, 100, 0, 3);
        x.mail(1, 60, 1, 4);
        x.mail(2, 10, 2, 5);
        x.mail(2, 10, 3, 6);
        x.mail(2, 10, 4, 6);
        x.pass(5);
        row("step 2: before the cutoff", x, 0, 0, 0, 100, 0, 0);
        x.pass(1);
        row("step 2: what was sorted is gone", x, 0, 0, 0, 0, 100, 0);
        row("step 2: what was sorted in this minute stays", x, 1, 0, 0, 30, 30, 30);
        row("step 2: what comes in this minute misses it", x, 2, 0, 0, 10, 0, 10);
        row("step 1: not before it comes", x, 3, 10, 0, 0, 0, 0);
        x.pass(1);
        row("step 1: what comes behind has missed it", x, 3, 0, 0, 10, 0, 10);
        row("step 1: another route", x, 4, 10, 0, 0, 0, 0);
        CHECK.due("routes miss", x.route(1, 2), 30);
        CHECK.due("routes let go", x.route(1, 1), 30);
        CHECK.due("routes keep what is sorted", x.route(1, 3), 30);
        CHECK.due("all that is gone", x.count(6), 130);
        CHECK.due("all that missed", x.count(7), 50);
        CHECK.due("came late", x.delayed(4), 12);
    }

    private static void missedStays() {
        Counted x = plain(0, 0, 0, 1);
        x.cutoff(0, 1);
        x.mail(0, 120, 0, 0);
        x.mail(0, 30, 0, 2);
        x.pass(3);
        row("what missed", x, 0, 0, 0, 70, 50, 70);
        row("what came behind", x, 1, 30, 0, 0, 0, 30);
        x.cutoff(0, 10);
        x.mail(0, 5, 0, 4);
        x.pass(7);
        row("a later cutoff: not yet", x, 0, 0, 0, 70, 50, 70);
        x.pass(1);
        row("a later cutoff: gone, and missed the first one", x, 0, 0, 0, 0, 120, 70);
        row("a later cutoff: gone, and missed the first one", x, 1, 0, 0, 0, 30, 30);
        row("a later cutoff: gone, and missed none", x, 2, 0, 0, 0, 5, 0);
        CHECK.due("it came in time for that cutoff", x.batch(2, 9), 0);
        CHECK.due("route: missed", x.route(0, 2), 100);
    }

    private static void cutoffWhileItRuns() {
        Counted x = plain(0, 0, 0, 1);
        x.set(LetterRuns.SPEED0, 10);
        x.mail(0, 100, 2, 0);
        x.pass(4);
        x.cutoff(2, 4);
        x.pass(1);
        row("a cutoff told for now", x, 0, 50, 0, 10, 40, 60);
        x.cutoff(2, 6);
        x.pass(2);
        row("fewer miss the second cutoff", x, 0, 30, 0, 10, 60, 60);
    }

    private static void goneInTwoParts() {
        Counted x = plain(0, 500, 1, 10);
        x.set(LetterRuns.SHIFT, 3);
        x.cutoff(0, 2);
        x.mail(0, 50, 0, 0);
        x.pass(2);
        row("hands sorted twice", x, 0, 0, 5, 45, 0, 0);
        x.pass(1);
        row("the rest with the hands missed it", x, 0, 0, 0, 5, 45, 5);
        CHECK.due("the last piece", x.batch(0, 10), 2);
    }

    private static void setUps() {
        Counted x = plain(2, 0, 0, 1);
        x.mail(0, 50, 3, 0);
        x.mail(0, 50, 3, 0);
        x.mail(0, 10, 1, 0);
        x.mail(0, 10, 3, 20);
        x.pass(1);
        CHECK.due("setting up", x.machine(0, 2), 1);
        CHECK.due("setting up counts at its start", x.machine(0, 5), 1);
        CHECK.due("the route", x.machine(0, 3), 3);
        x.set(LetterRuns.SETUP, 30);
        x.pass(1);
        CHECK.due("SETUP for a run that was begun", x.machine(0, 2), 0);
        CHECK.due("nothing sorted while setting up", x.machine(0, 4), 0);
        x.pass(1);
        CHECK.due("sorted", x.machine(0, 4), 50);
        CHECK.due("no batch any more", x.machine(0, 0), -6);
        CHECK.due("the route stays", x.machine(0, 3), 3);
        x.pass(1);
        CHECK.due("the same route is not set up again", x.machine(0, 4), 100);
        CHECK.due("the same route is not set up again", x.machine(0, 5), 1);
        CHECK.due("sorted in", x.batch(0, 10), 2);
        CHECK.due("sorted in", x.batch(1, 10), 3);
        x.set(LetterRuns.SETUP, 1);
        x.pass(1);
        CHECK.due("another route", x.machine(0, 0), 2);
        CHECK.due("another route", x.machine(0, 2), 0);
        CHECK.due("another route", x.machine(0, 5), 2);
        x.pass(17);
        CHECK.due("the route of before", x.machine(0, 5), 3);
        CHECK.due("machines of other shapes", x.machine(1, 5), 0);
    }

    private static void setUpNone() {
        Counted x = plain(0, 0, 0, 1);
        x.mail(2, 10, 3, 0);
        x.mail(2, 10, 4, 0);
        x.pass(1);
        CHECK.due("set up in no time: sorted", x.machine(2, 4), 10);
        CHECK.due("set up in no time: no delay", x.delayed(2), 0);
        x.pass(1);
        CHECK.due("set up in no time: sorted", x.machine(2, 4), 20);
        CHECK.due("set up in no time does not count", x.machine(2, 5), 0);
        CHECK.due("set up in no time: the route", x.machine(2, 3), 4);
    }

    private static void oneMachineAtATime() {
        Counted x = plain(0, 0, 0, 1);
        x.mail(0, 20, 0, 0);
        x.mail(0, 20, 0, 0);
        x.mail(1, 31, 0, 0);
        x.pass(1);
        CHECK.due("one batch in a minute, however small", x.machine(0, 4), 20);
        CHECK.due("one batch in a minute, however small", x.machine(0, 1), 1);
        CHECK.due("as many as the speed tells", x.machine(1, 4), 30);
        CHECK.due("as many as the speed tells", x.machine(1, 0), 2);
        x.set(LetterRuns.SPEED1, 1);
        x.pass(1);
        CHECK.due("sorted by minute 2", x.sortedAt(), 2);
        CHECK.due("the last ones", x.machine(1, 0), -6);
    }

    private static void rejects() {
        Counted x = plain(0, 500, 0, 1);
        x.set(LetterRuns.SPEED0, 1);
        x.mail(0, 5, 0, 0);
        int[] want = {0, 1, 1, 2, 2};
        for (int minute = 0; minute < want.length; minute++) {
            x.pass(1);
            CHECK.due("rejects by minute " + minute, x.count(3), want[minute]);
        }
        row("rejects", x, 0, 0, 2, 3, 0, 0);
        CHECK.due("rejected pieces are sorted by the machine, too", x.machine(0, 4), 5);
        CHECK.due("rejected", x.delayed(3), 1);
        CHECK.due("not all sorted", x.batch(0, 10), -6);
        x.set(LetterRuns.STAFF, 2);
        x.pass(1);
        CHECK.due("the last one by hand", x.batch(0, 10), 5);
        CHECK.due("rejects so far stay", x.count(3), 2);
        CHECK.due("with the hands", x.count(4), 0);
    }

    private static void rejectsOfAllMachines() {
        Counted x = plain(0, 100, 0, 1);
        x.set(LetterRuns.SPEED0, 9);
        x.set(LetterRuns.SPEED1, 1);
        x.mail(0, 9, 0, 0);
        x.mail(1, 1, 0, 0);
        x.mail(2, 10, 0, 0);
        x.pass(1);
        CHECK.due("9 letters: none", x.batch(0, 5), 0);
        CHECK.due("the tenth piece is a flat", x.batch(1, 5), 1);
        CHECK.due("the twentieth is a parcel", x.batch(2, 5), 1);
        CHECK.due("rejected: letters without", x.delayed(3), 6);
    }

    private static void rejectsAfterAChange() {
        Counted x = plain(0, 0, 0, 1);
        x.mail(0, 200, 0, 0);
        x.pass(1);
        x.set(LetterRuns.REJECT, 100);
        x.pass(1);
        CHECK.due("only of these pieces", x.count(3), 5);
        x.set(LetterRuns.REJECT, 10);
        x.pass(1);
        CHECK.due("100 to 150 pieces: 1 to 1", x.count(3), 5);
        x.pass(1);
        CHECK.due("150 to 200 pieces: 1 to 2", x.count(3), 6);
    }

    private static void rowOfTheHands() {
        Counted x = plain(0, 500, 1, 3);
        x.mail(1, 20, 0, 0);
        x.mail(0, 20, 0, 1);
        x.mail(1, 20, 0, 1);
        x.pass(1);
        row("10 rejects, 3 by hand", x, 0, 0, 7, 13, 0, 0);
        x.pass(1);
        row("the first batch goes on", x, 0, 0, 4, 16, 0, 0);
        row("letters before flats, behind it", x, 1, 0, 10, 10, 0, 0);
        row("flats", x, 2, 0, 10, 10, 0, 0);
        x.pass(1);
        x.pass(1);
        row("the hands go on with the next one in the same minute", x, 0, 0, 0, 20, 0, 0);
        row("the hands go on with the next one in the same minute", x, 1, 0, 8, 12, 0, 0);
        CHECK.due("the last piece by hand", x.batch(0, 10), 3);
        x.set(LetterRuns.HAND, 50);
        x.pass(1);
        CHECK.due("or all that there are", x.count(4), 0);
        CHECK.due("sorted", x.batch(2, 10), 4);
    }

    private static void rowOfTheHandsAgain() {
        Counted x = plain(0, 500, 0, 2);
        x.set(LetterRuns.SPEED0, 4);
        x.set(LetterRuns.SPEED1, 4);
        x.mail(0, 40, 0, 0);
        x.mail(1, 40, 0, 0);
        x.pass(2);
        row("to the pieces of their batch", x, 0, 32, 4, 4, 0, 0);
        row("to the pieces of their batch", x, 1, 32, 4, 4, 0, 0);
        x.set(LetterRuns.STAFF, 3);
        x.pass(1);
        row("all of the first one", x, 0, 28, 0, 12, 0, 0);
        CHECK.due("but not the last of its pieces", x.batch(0, 10), -6);
        row("the second one has yet", x, 1, 28, 6, 6, 0, 0);
        x.pass(1);
        row("the first one is behind it now", x, 0, 24, 2, 14, 0, 0);
        row("the second one is sorted first", x, 1, 24, 2, 14, 0, 0);
    }

    private static void shiftAndOvertime() {
        Counted x = plain(0, 500, 3, 1);
        x.set(LetterRuns.SHIFT, 2);
        x.mail(0, 20, 0, 1);
        x.pass(1);
        CHECK.due("the staff costs with nothing to do", x.count(5), 3);
        x.pass(1);
        row("in the shift", x, 0, 0, 7, 13, 0, 0);
        CHECK.due("staff and machine", x.count(5), 7);
        x.pass(5);
        row("behind it", x, 0, 0, 7, 13, 0, 0);
        CHECK.due("no cost behind it", x.count(5), 7);
        CHECK.due("never sorted", x.sortedAt(), -6);
        x.set(LetterRuns.OVER, 1);
        x.pass(2);
        row("overtime", x, 0, 0, 1, 19, 0, 0);
        CHECK.due("twice the cost", x.count(5), 19);
        x.pass(1);
        CHECK.due("the last one costs as much", x.count(5), 25);
        CHECK.due("sorted", x.batch(0, 10), 9);
        x.pass(10);
        CHECK.due("overtime without pieces", x.count(5), 25);
        x.set(LetterRuns.SHIFT, 25);
        x.pass(10);
        CHECK.due("20 to 24 are in the shift again", x.count(5), 40);
        x.set(LetterRuns.STAFF, 0);
        x.set(LetterRuns.SHIFT, 1440);
        x.pass(100);
        CHECK.due("no staff", x.count(5), 40);
    }

    private static void overtimeWithNothingByHand() {
        Counted x = plain(0, 0, 3, 1);
        x.set(LetterRuns.SHIFT, 0);
        x.set(LetterRuns.OVER, 1);
        x.mail(0, 250, 0, 0);
        x.pass(2);
        CHECK.due("the machine alone costs", x.count(5), 2);
        x.set(LetterRuns.REJECT, 20);
        x.pass(1);
        CHECK.due("a reject in this minute", x.count(5), 9);
        x.set(LetterRuns.REJECT, 0);
        x.pass(1);
        CHECK.due("the machine alone again", x.count(5), 10);
        x.set(LetterRuns.STAFF, 0);
        x.set(LetterRuns.REJECT, 20);
        x.pass(1);
        CHECK.due("nobody is there", x.count(5), 11);
        x.set(LetterRuns.STAFF, 20);
        x.pass(1);
        CHECK.due("the pieces of the minute before", x.count(5), 51);
    }

    /** A batch that is told where there was another one before restore() has nothing of it. */
    private static void freshBatch() {
        Counted x = plain(0, 500, 1, 1);
        x.save(0);
        x.mail(0, 50, 0, 0);
        x.cutoff(0, 1);
        x.pass(4);
        row("the batch that was there", x, 0, 0, 21, 3, 26, 24);
        CHECK.due("no batch", x.restore(0), 0);
        CHECK.due("another one", x.mail(2, 7, 3, 2), 0);
        row("the other one", x, 0, 7, 0, 0, 0, 0);
        CHECK.due("its delay", x.batch(0, 9), 0);
        CHECK.due("its shape", x.batch(0, 0), 2);
        x.restore(0);
        x.mail(0, 1, 0, 0);
        x.pass(1);
        CHECK.due("sorted", x.batch(0, 10), 0);
        x.restore(0);
        x.mail(0, 1, 0, 0);
        CHECK.due("its last minute", x.batch(0, 10), -6);
    }

    /** All 40 batches in one queue, and then all of them in the row of the hands. */
    private static void fullCentre() {
        Counted x = plain(0, 500, 0, 1);
        for (int number = 0; number < 40; number++) {
            x.mail(0, 4, 5, 7);
        }
        x.pass(8);
        CHECK.due("one was taken", x.machine(0, 1), 39);
        CHECK.due("the last one", x.queued(0, 38), 39);
        CHECK.due("no more", x.queued(0, 39), -1);
        CHECK.due("all but the first one waited", x.delayed(1), (1L << 40) - 2);
        CHECK.due("nobody sorts the rejects", x.sortedAt(), -6);
        CHECK.due("they miss it", x.wouldMiss(), 80);
        CHECK.due("one of the staff could", x.least(LetterRuns.STAFF, 0), 1);
        x.pass(39);
        CHECK.due("by hand", x.count(4), 80);
        CHECK.due("none in the queue", x.machine(0, 1), 0);
        x.set(LetterRuns.STAFF, 20);
        x.set(LetterRuns.HAND, 50);
        x.pass(1);
        CHECK.due("all in one minute", x.count(4), 0);
        CHECK.due("sorted", x.batch(39, 10), 47);
        CHECK.due("all are sorted now", x.sortedAt(), 48);
        x.save(0);
        x.pass(1000);
        CHECK.due("all gone", x.route(5, 1), 160);
        CHECK.due("undo", x.undo(), 5);
        CHECK.due("not gone", x.route(5, 1), 0);
        CHECK.due("restore", x.restore(0), 40);
    }

    private static void costsOfMachines() {
        Counted x = plain(2, 0, 0, 1);
        x.mail(0, 60, 0, 0);
        x.mail(2, 5, 0, 3);
        x.pass(2);
        CHECK.due("setting up costs", x.count(5), 2);
        x.pass(1);
        CHECK.due("sorting costs", x.count(5), 3);
        x.pass(1);
        CHECK.due("also the last pieces; and the parcels", x.count(5), 5);
        x.pass(20);
        CHECK.due("then the parcels alone", x.count(5), 7);
        x.set(LetterRuns.SETUP, 0);
        x.mail(1, 1, 0, 24);
        x.pass(1);
        CHECK.due("taken and sorted in one minute", x.count(5), 8);
    }

    private static void firstDelays() {
        Counted x = plain(1, 500, 0, 1);
        x.set(LetterRuns.SPEED0, 20);
        x.cutoff(5, 3);
        x.mail(0, 20, 0, 0);
        x.mail(0, 20, 0, 1);
        x.mail(0, 20, 0, 2);
        x.mail(0, 20, 5, 2);
        x.mail(0, 20, 5, 3);
        x.mail(0, 20, 5, 4);
        x.pass(1);
        CHECK.due("being set up", x.batch(0, 9), 2);
        CHECK.due("not come yet", x.delayed(0), 62);
        x.pass(1);
        CHECK.due("the machine had another one", x.batch(1, 9), 1);
        CHECK.due("rejected later", x.batch(0, 9), 2);
        x.pass(1);
        CHECK.due("the machine took another one", x.delayed(1), 14);
        x.pass(2);
        CHECK.due("in the minute of the cutoff, and behind it", x.delayed(4), 48);
        CHECK.due("waited, then missed the cutoff", x.batch(3, 9), 1);
        x.mail(0, 20, 5, 60);
        x.mail(0, 20, 5, 60);
        x.mail(1, 1, 5, 60);
        x.cutoff(5, 61);
        x.set(LetterRuns.SETUP, 0);
        x.pass(56);
        CHECK.due("taken at once and rejected", x.batch(6, 9), 3);
        CHECK.due("waited behind it", x.batch(7, 9), 1);
        CHECK.due("nothing", x.batch(8, 9), 0);
        CHECK.due("none", x.delayed(0), 256);
    }
}
