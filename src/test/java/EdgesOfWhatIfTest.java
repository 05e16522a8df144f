/** Sentences of the promises 12 to 14: sortedAt, wouldMiss, least. */
public final class EdgesOfWhatIfTest extends Sentences {
    public static void main(String[] args) throws Exception {
        new EdgesOfWhatIfTest().run();
    }

    void whatIfNothingChanges() {
        sentence("Terms", "what if; nothing changes (the day goes on until the minute 1440).");
        Calls[] centres = {x -> { }, Sentences::busy, x -> x.pass(1440), x -> cutoffAhead(x)};
        Call[] asked = {x -> x.sortedAt(), x -> x.wouldMiss(), x -> x.least(STAFF, 0), x -> x.least(SPEED0, 5),
            x -> x.least(SPEED1, 500), x -> x.least(SPEED2, Integer.MAX_VALUE)};
        for (Calls before : centres) {
            for (Call call : asked) {
                changesNothing(before, "what if", call, call.on(made(before)));
            }
        }
    }

    /** 100 letters for a cutoff in 5 minutes, of which one is for the set-up. */
    private static void cutoffAhead(Counted x) {
        x.set(SETUP, 1);
        x.set(REJECT, 0);
        x.mail(0, 100, 2, 10);
        x.cutoff(2, 15);
        x.pass(10);
    }

    // ---- promise 12

    void promise12AllPieces() {
        sentence("Promise 12:", "Tells the minute of now at which all pieces of all batches that were told would be sorted or gone.");
        Counted x = plain(3, 0, 0, 1);
        x.mail(0, 50, 0, 0);
        due("set up in 0 to 2, sorted in 3", x.sortedAt(), 4);
        x.mail(0, 1, 0, 0);
        due("one batch more", x.sortedAt(), 5);
        x.mail(1, 31, 1, 10);
        due("also what has not come", x.sortedAt(), 15);
        x.cutoff(0, 4);
        due("also if some are gone", x.sortedAt(), 15);
        x.cutoff(1, 0);
        due("also if they missed it", x.sortedAt(), 15);
        Counted hands = plain(0, 500, 1, 10);
        hands.mail(0, 50, 0, 0);
        due("25 by hand", hands.sortedAt(), 3);
        hands.set(HAND, 25);
        due("all by hand in the minute in which they come", hands.sortedAt(), 1);
        hands.set(STAFF, 0);
        due("nobody", hands.sortedAt(), NONE);
        hands.pass(3);
        hands.set(STAFF, 1);
        hands.set(HAND, 5);
        due("what is with the hands at the minute of now", hands.sortedAt(), 8);
    }

    void promise12MinuteOfNow() {
        sentence("Promise 12:", "Returns the minute (that of now, if they are)");
        Counted x = plain(0, 0, 0, 1);
        due("no batches", x.sortedAt(), 0);
        x.pass(5);
        due("no batches", x.sortedAt(), 5);
        x.mail(0, 50, 0, 5);
        due("told for now", x.sortedAt(), 6);
        x.pass(1);
        due("sorted in the minute before", x.sortedAt(), 6);
        x.pass(100);
        due("sorted long ago", x.sortedAt(), 106);
        x.pass(1334);
        due("at the end", x.sortedAt(), 1440);
        Counted gone = plain(0, 0, 0, 1);
        gone.cutoff(0, 1);
        gone.mail(0, 50, 0, 0);
        gone.pass(2);
        due("all gone", gone.sortedAt(), 2);
    }

    void promise12None() {
        sentence("Promise 12:", "NONE if it is not so at the minute 1440.");
        int[][] minutes = {{50, 1440}, {51, NONE}, {999, NONE}};
        for (int[] row : minutes) {
            Counted x = plain(0, 0, 0, 1);
            x.mail(0, row[0], 0, 1439);
            due(row[0] + " in the last minute", x.sortedAt(), row[1]);
            x.pass(1439);
            due(row[0] + " when it is now", x.sortedAt(), row[1]);
            x.pass(1);
            due(row[0] + " when it is over", x.sortedAt(), row[1]);
        }
        Counted setup = plain(1, 0, 0, 1);
        setup.mail(0, 1, 0, 1438);
        due("set up, then sorted in the last minute", setup.sortedAt(), 1440);
        setup.set(SETUP, 2);
        due("set up until the end", setup.sortedAt(), NONE);
        Counted shift = plain(0, 500, 1, 1);
        shift.mail(0, 2, 0, 1439);
        due("the shift is over", shift.sortedAt(), NONE);
        shift.set(SHIFT, 1440);
        due("a shift to the end", shift.sortedAt(), 1440);
    }

    // ---- promise 13

    void promise13AtTheEnd() {
        sentence("Promise 13:", "Tells how many pieces would have missed a cutoff at the minute 1440.");
        Counted x = plain(0, 0, 0, 1);
        due("no mail", x.wouldMiss(), 0);
        x.mail(0, 100, 0, 718);
        due("two minutes before the cutoff", x.wouldMiss(), 0);
        x.mail(1, 61, 0, 718);
        due("a piece too many", x.wouldMiss(), 1);
        x.mail(2, 10, 0, 720);
        due("in the minute of the cutoff", x.wouldMiss(), 11);
        x.mail(2, 10, 0, 1439);
        due("in the last minute", x.wouldMiss(), 21);
        x.mail(2, 10, 5, 1438);
        x.cutoff(5, 1439);
        due("sorted before a cutoff in the last minute", x.wouldMiss(), 21);
        x.mail(2, 10, 5, 1438);
        due("not sorted before a cutoff in the last minute", x.wouldMiss(), 31);
        x.mail(0, 7, 6, 1439);
        x.cutoff(6, 1439);
        due("it comes in the last minute, with the cutoff", x.wouldMiss(), 38);
    }

    void promise13WithTheHands() {
        sentence("Promise 13:", "how many pieces would have missed a cutoff");
        Counted x = plain(0, 500, 0, 5);
        x.cutoff(0, 6);
        x.mail(0, 40, 0, 0);
        x.mail(1, 20, 0, 0);
        x.pass(3);
        due("30 are with the hands, and nobody sorts them", x.wouldMiss(), 30);
        x.set(STAFF, 1);
        due("15 of them are sorted before it", x.wouldMiss(), 15);
        due("two of the staff", x.least(STAFF, 0), 2);
        x.pass(3);
        due("it is the minute of the cutoff", x.wouldMiss(), 15);
        due("nobody can help then", x.least(STAFF, 14), NONE);
    }

    void promise13HowMany() {
        sentence("Promise 13:", "Returns how many.");
        Counted x = plain(0, 0, 0, 1);
        for (int batch = 0; batch < 40; batch++) {
            x.mail(batch % 3, 999, batch % 8, 1000 + 5 * batch);
        }
        due("all of the most pieces that there can be", x.wouldMiss(), 39960);
        x.pass(1440);
        due("as it came", x.wouldMiss(), 39960);
        due("as it came", x.count(7), 39960);
        Counted so = plain(0, 0, 0, 1);
        so.cutoff(0, 1);
        so.mail(0, 60, 0, 0);
        so.mail(1, 40, 1, 0);
        due("before", so.wouldMiss(), 10);
        so.pass(2);
        due("what missed it so far", so.wouldMiss(), 10);
        so.cutoff(0, 5);
        so.cutoff(1, 2);
        due("no piece counts twice", so.wouldMiss(), 10);
        so.set(SPEED1, 1);
        so.cutoff(1, 2);
        due("all flats were sorted", so.wouldMiss(), 10);
        so.undo();
        so.undo();
        so.undo();
        so.undo();
        so.undo();
        due("at the minute 0 again", so.count(0), 0);
        so.set(SPEED1, 1);
        due("the flats go at 720", so.wouldMiss(), 10);
        so.cutoff(1, 39);
        due("or one of them misses it", so.wouldMiss(), 11);
    }

    // ---- promise 14

    void promise14Least() {
        sentence("Promise 14:", "Finds the least value of STAFF or of a speed by which no more pieces would have missed a cutoff at the minute 1440 than told.");
        Counted speed = made(EdgesOfWhatIfTest::cutoffAhead);
        due("100 in 4 minutes", speed.least(SPEED0, 0), 25);
        due("3 may miss it", speed.least(SPEED0, 3), 25);
        due("4 may miss it", speed.least(SPEED0, 4), 24);
        due("95 may miss it", speed.least(SPEED0, 95), 2);
        due("96 may miss it", speed.least(SPEED0, 96), 1);
        speed.set(SPEED0, 24);
        due("by one less than the least", speed.wouldMiss(), 4);
        speed.set(SPEED0, 25);
        due("by the least", speed.wouldMiss(), 0);
        due("whatever it is now", speed.least(SPEED0, 0), 25);
        Counted staff = plain(0, 500, 0, 3);
        staff.cutoff(0, 4);
        staff.mail(0, 50, 0, 0);
        due("25 rejects, 4 minutes, 3 by each", staff.least(STAFF, 0), 3);
        due("1 may miss it", staff.least(STAFF, 1), 2);
        due("12 may miss it", staff.least(STAFF, 12), 2);
        due("13 may miss it", staff.least(STAFF, 13), 1);
        due("24 may miss it", staff.least(STAFF, 24), 1);
        due("25 may miss it", staff.least(STAFF, 25), 0);
    }

    void promise14Setting() {
        sentence("Promise 14:", "- `setting`: STAFF, SPEED0, SPEED1 or SPEED2");
        int[] least = {0, 1, 1, 1};
        int[] settings = {STAFF, SPEED0, SPEED1, SPEED2};
        for (int i = 0; i < settings.length; i++) {
            due("the lowest of its range, setting " + settings[i], new Counted().least(settings[i], 0), least[i]);
        }
        for (int shape = 0; shape < 3; shape++) {
            Counted x = plain(0, 0, 0, 1);
            x.cutoff(0, 1);
            x.mail(shape, 100, 0, 0);
            for (int machine = 0; machine < 3; machine++) {
                due("the speed of machine " + machine, x.least(SPEED0 + machine, 0), machine == shape ? 100 : NONE);
            }
        }
    }

    void promise14Pieces() {
        sentence("Promise 14:", "- `pieces`: 0 or more");
        Counted x = made(EdgesOfWhatIfTest::cutoffAhead);
        int[][] least = {{0, 25}, {99, 1}, {100, 1}, {101, 1}, {39960, 1}, {39961, 1}, {Integer.MAX_VALUE, 1}};
        for (int[] row : least) {
            due("least(SPEED0, " + row[0] + ")", x.least(SPEED0, row[0]), row[1]);
        }
    }

    void promise14Value() {
        sentence("Promise 14:", "Returns the value");
        int[][] speeds = {{1, 1}, {2, 2}, {99, 99}, {100, 100}, {101, NONE}};
        for (int[] row : speeds) {
            Counted x = plain(0, 0, 0, 1);
            x.cutoff(0, 1);
            x.mail(2, row[0], 0, 0);
            due(row[0] + " in a minute", x.least(SPEED2, 0), row[1]);
        }
        int[][] staff = {{1, 0}, {2, 1}, {3, 1}, {4, 2}, {38, 19}, {40, 20}, {41, 20}, {42, NONE}};
        for (int[] row : staff) {
            Counted x = plain(0, 500, 0, 1);
            x.cutoff(0, 1);
            x.mail(0, row[0], 0, 0);
            due("half of " + row[0] + " by hand", x.least(STAFF, 0), row[1]);
        }
    }

    void promise14ArgumentOutOfRange() {
        sentence("Promise 14:", "BAD_VALUE if an argument is out of range");
        int[] others = {-1, SETUP, REJECT, HAND, SHIFT, OVER, 9, Integer.MIN_VALUE, Integer.MAX_VALUE, 65538};
        for (int setting : others) {
            refused("least(" + setting + ", 0)", x -> x.least(setting, 0), BAD_VALUE);
        }
        int[] settings = {STAFF, SPEED0, SPEED1, SPEED2};
        for (int setting : settings) {
            refused("least(" + setting + ", -1)", x -> x.least(setting, -1), BAD_VALUE);
            for (int far : FAR_BELOW) {
                refused("least(" + setting + ", " + far + ")", x -> x.least(setting, far), BAD_VALUE);
            }
        }
        refused("least(HAND, -1)", x -> x.least(HAND, -1), BAD_VALUE);
    }

    void promise14None() {
        sentence("Promise 14:", "NONE if there is none.");
        Counted late = plain(0, 0, 0, 1);
        late.mail(0, 5, 0, 800);
        int[] settings = {STAFF, SPEED0, SPEED1, SPEED2};
        for (int setting : settings) {
            due("they come behind the cutoff", late.least(setting, 4), NONE);
            due("all of them may miss it", late.least(setting, 5), LOWEST[setting]);
        }
        Counted over = plain(0, 0, 0, 1);
        over.cutoff(0, 1);
        over.mail(0, 60, 0, 0);
        due("by 60", over.least(SPEED0, 0), 60);
        over.pass(2);
        due("they have missed it", over.least(SPEED0, 9), NONE);
        due("as many may", over.least(SPEED0, 10), 1);
        over.pass(1438);
        due("also at the end", over.least(SPEED0, 9), NONE);
        due("also at the end", over.least(STAFF, 10), 0);
    }
}
