/** Promises 12 to 14: sortedAt, wouldMiss, least. */
public final class WhatIfTest {
    private static final Check CHECK = new Check("WhatIfTest");

    public static void main(String[] args) {
        sortedAt();
        sortedAtTheEnd();
        wouldMiss();
        least();
        leastOfEachSpeed();
        leastIsNotTheFirstOfAllGreater();
        leastWrong();
        nothingChanges();
        CHECK.finish();
    }

    private static void sortedAt() {
        Counted x = new Counted();
        CHECK.due("12: without mail", x.sortedAt(), 0);
        x.pass(7);
        CHECK.due("12: without mail", x.sortedAt(), 7);
        x.set(LetterRuns.REJECT, 0);
        x.mail(0, 100, 0, 9);
        CHECK.due("12: three minutes to set up, two to sort", x.sortedAt(), 14);
        x.mail(2, 11, 0, 100);
        CHECK.due("12: also what has not come", x.sortedAt(), 105);
        x.set(LetterRuns.REJECT, 500);
        x.set(LetterRuns.STAFF, 1);
        x.set(LetterRuns.HAND, 1);
        CHECK.due("12: also by hand", x.sortedAt(), 108);
        x.cutoff(0, 101);
        CHECK.due("12: a cutoff does not matter", x.sortedAt(), 108);
        x.pass(100);
        CHECK.due("12: the same a minute before", x.sortedAt(), 108);
        x.pass(6);
        CHECK.due("12: that of now, if it is over", x.sortedAt(), 113);
    }

    private static void sortedAtTheEnd() {
        Counted x = new Counted();
        x.set(LetterRuns.SETUP, 0);
        x.set(LetterRuns.REJECT, 0);
        x.mail(0, 50, 0, 1439);
        CHECK.due("12: in the last minute", x.sortedAt(), 1440);
        x.mail(1, 31, 0, 1439);
        CHECK.due("12: a piece too many", x.sortedAt(), -6);
        x.pass(1440);
        CHECK.due("12: at the end", x.sortedAt(), -6);
        Counted y = new Counted();
        y.set(LetterRuns.STAFF, 0);
        y.mail(0, 100, 0, 0);
        CHECK.due("12: nobody sorts the rejects", y.sortedAt(), -6);
        y.set(LetterRuns.STAFF, 1);
        y.set(LetterRuns.SHIFT, 4);
        CHECK.due("12: the shift ends before", y.sortedAt(), -6);
        y.set(LetterRuns.OVER, 1);
        CHECK.due("12: overtime", y.sortedAt(), 5);
    }

    private static void wouldMiss() {
        Counted x = new Counted();
        CHECK.due("13: without mail", x.wouldMiss(), 0);
        x.set(LetterRuns.SETUP, 0);
        x.set(LetterRuns.REJECT, 0);
        x.cutoff(0, 10);
        x.mail(0, 500, 0, 0);
        CHECK.due("13: ten minutes are enough", x.wouldMiss(), 0);
        x.mail(1, 301, 0, 0);
        CHECK.due("13: one piece too many", x.wouldMiss(), 1);
        x.mail(2, 17, 0, 11);
        CHECK.due("13: what will come behind", x.wouldMiss(), 18);
        x.mail(2, 13, 1, 720);
        CHECK.due("13: what will come in the minute of its cutoff", x.wouldMiss(), 31);
        x.mail(2, 19, 2, 1439);
        CHECK.due("13: what will come in the last minute", x.wouldMiss(), 50);
        x.mail(0, 50, 3, 1438);
        x.cutoff(3, 1439);
        CHECK.due("13: a cutoff in the last minute", x.wouldMiss(), 50);
        x.set(LetterRuns.SPEED0, 49);
        CHECK.due("13: a slower machine", x.wouldMiss(), 61);
        x.pass(1440);
        CHECK.due("13: at the end, as it came", x.wouldMiss(), 61);
        CHECK.due("13: at the end, as it came", x.count(7), 61);
        x.undo();
        x.pass(100);
        CHECK.due("13: what missed so far counts", x.wouldMiss(), 61);
        CHECK.due("13: so far", x.count(7), 28);
    }

    private static void least() {
        Counted x = new Counted();
        x.set(LetterRuns.SETUP, 0);
        x.set(LetterRuns.REJECT, 500);
        x.set(LetterRuns.SPEED0, 100);
        x.cutoff(0, 10);
        x.mail(0, 200, 0, 0);
        CHECK.due("14: 100 rejects in 10 minutes by 5", x.least(LetterRuns.STAFF, 0), 2);
        x.set(LetterRuns.HAND, 1);
        CHECK.due("14: by 1", x.least(LetterRuns.STAFF, 0), 10);
        CHECK.due("14: 9 may miss it", x.least(LetterRuns.STAFF, 9), 10);
        CHECK.due("14: 10 may miss it", x.least(LetterRuns.STAFF, 10), 9);
        CHECK.due("14: 99 may miss it", x.least(LetterRuns.STAFF, 99), 1);
        CHECK.due("14: 100 may miss it", x.least(LetterRuns.STAFF, 100), 0);
        CHECK.due("14: as many as you like", x.least(LetterRuns.STAFF, Integer.MAX_VALUE), 0);
        x.mail(2, 5, 0, 11);
        CHECK.due("14: none helps", x.least(LetterRuns.STAFF, 4), -6);
        CHECK.due("14: 5 miss it in any case", x.least(LetterRuns.STAFF, 5), 10);
        x.set(LetterRuns.STAFF, 20);
        CHECK.due("14: whatever it is now", x.least(LetterRuns.STAFF, 5), 10);
        x.pass(1440);
        CHECK.due("14: too late", x.least(LetterRuns.STAFF, 4), -6);
        CHECK.due("14: at the end", x.least(LetterRuns.STAFF, 5), 0);
    }

    private static void leastOfEachSpeed() {
        for (int shape = 0; shape < 3; shape++) {
            Counted x = new Counted();
            x.set(LetterRuns.SETUP, 2);
            x.set(LetterRuns.REJECT, 0);
            x.cutoff(4, 6);
            x.mail(shape, 397, 4, 0);
            int speed = LetterRuns.SPEED0 + shape;
            CHECK.due("14: 397 pieces in 4 minutes", x.least(speed, 0), 100);
            CHECK.due("14: one may miss it", x.least(speed, 1), 99);
            CHECK.due("14: all may miss it", x.least(speed, 397), 1);
            CHECK.due("14: 393 of them may", x.least(speed, 393), 1);
            CHECK.due("14: 392 of them may", x.least(speed, 392), 2);
            CHECK.due("14: of another shape", x.least(LetterRuns.SPEED0 + (shape + 1) % 3, 0), -6);
            x.mail(shape, 10, 4, 0);
            CHECK.due("14: more than can be sorted", x.least(speed, 0), -6);
        }
    }

    /** By some speeds of the letters' machine the tenth piece is a flat: it is rejected, and misses its cutoff. */
    private static void leastIsNotTheFirstOfAllGreater() {
        Counted x = new Counted();
        x.set(LetterRuns.SETUP, 0);
        x.set(LetterRuns.STAFF, 1);
        x.set(LetterRuns.HAND, 1);
        x.set(LetterRuns.REJECT, 500);
        x.set(LetterRuns.SPEED2, 20);
        x.mail(2, 20, 2, 0);
        x.pass(1);
        x.set(LetterRuns.REJECT, 100);
        x.mail(0, 300, 0, 1);
        x.mail(1, 5, 1, 1);
        x.cutoff(0, 101);
        x.cutoff(1, 2);
        for (int speed = 3; speed <= 100; speed++) {
            x.set(LetterRuns.SPEED0, speed);
            CHECK.due("13: by speed " + speed, x.wouldMiss(), speed % 10 >= 5 ? 1 : 0);
        }
        x.set(LetterRuns.SPEED0, 2);
        CHECK.holds("13: by speed 2", x.wouldMiss() > 50);
        CHECK.due("14: the least", x.least(LetterRuns.SPEED0, 0), 3);
    }

    private static void leastWrong() {
        Counted x = new Counted();
        int[] others = {-1, 0, 1, 3, 4, 5, 9, Integer.MIN_VALUE, Integer.MAX_VALUE};
        for (int setting : others) {
            CHECK.due("14: least(" + setting + ", 0)", x.least(setting, 0), -2);
        }
        CHECK.due("14: least(2, -1)", x.least(2, -1), -2);
        CHECK.due("14: least(6, MIN)", x.least(6, Integer.MIN_VALUE), -2);
        CHECK.due("14: least(2, 0) without mail", x.least(2, 0), 0);
        CHECK.due("14: least(8, 0) without mail", x.least(8, 0), 1);
    }

    private static void nothingChanges() {
        Run day = new Run();
        day.then(x -> x.mail(0, 500, 0, 0)).then(x -> x.mail(1, 500, 1, 5)).then(x -> x.cutoff(1, 9));
        day.then(x -> x.pass(7)).then(x -> x.mail(2, 33, 2, 20)).then(x -> x.save(1)).then(x -> x.put(Check.packed("t5;")));
        Run asked = day.copy();
        asked.then(Face::sortedAt).then(Face::wouldMiss).then(x -> x.least(LetterRuns.STAFF, 0));
        asked.then(x -> x.least(LetterRuns.SPEED1, 400)).then(x -> x.least(LetterRuns.SPEED1, 0));
        CHECK.holds("12 to 14: nothing changes", day.stateAndLater().equals(asked.stateAndLater()));
        CHECK.due("12 to 14: the pad stays", asked.answer(x -> x.count(17)), 3);
        CHECK.due("12 to 14: the slot stays", asked.answer(x -> x.restore(1)), 3);
        CHECK.due("12 to 14: nothing is recorded", asked.answer(Face::undo), 4);
        CHECK.due("12 to 14: the latest change was the mail", asked.then(Face::undo).answer(x -> x.count(1)), 2);
    }
}
