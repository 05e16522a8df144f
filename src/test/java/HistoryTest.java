/** Promises 19 to 21: undo, save, restore. */
public final class HistoryTest {
    private static final Check CHECK = new Check("HistoryTest");

    public static void main(String[] args) {
        undo();
        undoSix();
        undoEverything();
        undoEachChange();
        undoKeepsPadAndSlots();
        noChanges();
        save();
        restore();
        restoreIsAChange();
        CHECK.finish();
    }

    private static void undo() {
        Counted x = new Counted();
        CHECK.due("19: nothing to undo", x.undo(), -5);
        x.set(LetterRuns.STAFF, 9);
        x.cutoff(1, 99);
        x.mail(1, 77, 2, 3);
        x.pass(5);
        CHECK.due("19: four changes", x.count(18), 4);
        CHECK.due("19: pass", x.undo(), 3);
        CHECK.due("19: pass", x.count(0), 0);
        CHECK.due("19: mail", x.undo(), 2);
        CHECK.due("19: mail", x.count(1), 0);
        CHECK.due("19: cutoff", x.undo(), 1);
        CHECK.due("19: cutoff", x.route(1, 0), 720);
        CHECK.due("19: set", x.undo(), 0);
        CHECK.due("19: set", x.count(10), 2);
        CHECK.due("19: nothing to undo", x.undo(), -5);
        CHECK.due("19: it can go on", x.mail(0, 1, 0, 0), 0);
        CHECK.due("19: it can go on", x.count(18), 1);
    }

    private static void undoSix() {
        Counted x = new Counted();
        for (int value = 3; value <= 20; value++) {
            x.set(LetterRuns.STAFF, value);
            CHECK.due("19: at most six", x.count(18), Math.min(value - 2, 6));
        }
        for (int left = 5; left >= 0; left--) {
            CHECK.due("19: undo", x.undo(), left);
            CHECK.due("19: the staff before", x.count(10), 14 + left);
        }
        CHECK.due("19: the older ones were dropped", x.undo(), -5);
        CHECK.due("19: the oldest state", x.count(10), 14);
        for (int value = 0; value < 4; value++) {
            x.set(LetterRuns.SETUP, value);
        }
        x.undo();
        x.undo();
        for (int value = 10; value < 17; value++) {
            x.set(LetterRuns.SETUP, value);
        }
        for (int left = 5; left >= 0; left--) {
            CHECK.due("19: undo again", x.undo(), left);
            CHECK.due("19: SETUP before", x.count(8), 10 + left);
        }
    }

    /** A day with all that a state holds; each change is undone to what was there before it. */
    private static void undoEverything() {
        Run day = new Run();
        day.then(x -> x.set(LetterRuns.REJECT, 300)).then(x -> x.set(LetterRuns.HAND, 1));
        int[][] mail = {{0, 300, 1, 0}, {0, 200, 2, 1}, {1, 90, 1, 0}, {2, 45, 1, 2}, {0, 50, 1, 3}};
        for (int[] told : mail) {
            day.then(x -> x.mail(told[0], told[1], told[2], told[3]));
        }
        day.then(x -> x.cutoff(1, 6));
        String[] before = new String[6];
        for (int change = 0; change < 6; change++) {
            before[change] = day.stateAndLater();
            int minutes = 1 + change;
            day.then(x -> x.pass(minutes));
        }
        for (int change = 5; change >= 0; change--) {
            CHECK.due("19: undo", day.answer(Face::undo), change);
            CHECK.holds("19: as it was before change " + change, before[change].equals(day.then(Face::undo).stateAndLater()));
        }
    }

    /** Each kind of change on a day that is busy, so that none can be undone to an older state. */
    private static void undoEachChange() {
        Run day = new Run();
        day.then(x -> x.save(0)).then(x -> x.set(LetterRuns.REJECT, 300));
        day.then(x -> x.mail(0, 300, 1, 0)).then(x -> x.mail(1, 300, 2, 0)).then(x -> x.pass(5));
        for (int kind = 0; kind < 6; kind++) {
            int one = kind;
            String before = day.stateAndLater();
            day.then(x -> change(x, one));
            CHECK.holds("19: change " + kind + " is one", !before.equals(day.stateAndLater()));
            day.then(Face::undo);
            CHECK.holds("19: change " + kind + " is undone", before.equals(day.stateAndLater()));
            day.then(x -> change(x, (one + 1) % 5));
        }
    }

    private static int change(Face x, int kind) {
        switch (kind) {
            case 0: return x.set(LetterRuns.STAFF, x.count(10) + 1);
            case 1: return x.cutoff(3, x.route(3, 0) - 1);
            case 2: return x.mail(2, 40, 3, x.count(0));
            case 3: return x.pass(2);
            case 4: Check.type(x, "t3;s9;c4=100"); return x.carryOut();
            default: return x.restore(0);
        }
    }

    private static void undoKeepsPadAndSlots() {
        Counted x = new Counted();
        x.set(LetterRuns.STAFF, 9);
        Check.type(x, "t5;s");
        CHECK.due("20: save", x.save(1), 0);
        CHECK.due("19: undo", x.undo(), 0);
        CHECK.due("19: the pad stays", x.count(17), 4);
        CHECK.due("19: the slot stays", x.restore(1), 0);
        CHECK.due("19: the slot stays", x.count(10), 9);
        CHECK.due("19: restore is undone", x.undo(), 0);
        CHECK.due("19: restore is undone", x.count(10), 2);
    }

    private static void noChanges() {
        Counted x = new Counted();
        x.pass(3);
        x.set(9, 0);
        x.cutoff(8, 9);
        x.mail(3, 1, 0, 9);
        x.pass(0);
        x.pass(1440);
        x.restore(0);
        x.restore(2);
        x.carryOut();
        x.put('t');
        x.fault();
        x.wipe();
        x.save(0);
        x.save(2);
        x.sortedAt();
        x.wouldMiss();
        x.least(2, 0);
        CHECK.due("19: none of these is a change", x.count(18), 1);
        CHECK.due("19: undo", x.undo(), 0);
        CHECK.due("19: undo", x.count(0), 0);
    }

    private static void save() {
        Counted x = new Counted();
        CHECK.due("20: slot -1", x.save(-1), -2);
        CHECK.due("20: slot 2", x.save(2), -2);
        CHECK.due("20: slot MAX", x.save(Integer.MAX_VALUE), -2);
        CHECK.due("20: slot 0", x.save(0), 0);
        x.mail(0, 5, 0, 0);
        x.mail(1, 5, 0, 0);
        CHECK.due("20: slot 1", x.save(1), 2);
        x.mail(2, 5, 0, 0);
        CHECK.due("20: overwrites", x.save(0), 3);
        CHECK.due("20: it is not a change", x.count(18), 3);
        CHECK.due("20: what was saved last", x.restore(0), 3);
        CHECK.due("20: the other one", x.restore(1), 2);
    }

    private static void restore() {
        Counted x = new Counted();
        CHECK.due("21: slot -1", x.restore(-1), -2);
        CHECK.due("21: slot 2", x.restore(2), -2);
        CHECK.due("21: slot MIN", x.restore(Integer.MIN_VALUE), -2);
        CHECK.due("21: nothing saved", x.restore(0), -5);
        CHECK.due("21: errors record nothing", x.count(18), 0);
        restoreABusyDay();
    }

    private static void restoreABusyDay() {
        Run day = new Run();
        day.then(x -> x.set(LetterRuns.REJECT, 250)).then(x -> x.set(LetterRuns.STAFF, 1));
        day.then(x -> x.mail(0, 400, 1, 0)).then(x -> x.mail(1, 60, 2, 0)).then(x -> x.mail(0, 30, 3, 1));
        day.then(x -> x.cutoff(2, 5)).then(x -> x.pass(5)).then(x -> x.save(1));
        String saved = day.stateAndLater();
        CHECK.due("21: the other slot", day.answer(x -> x.restore(0)), -5);
        day.then(x -> x.pass(100)).then(x -> x.mail(2, 1, 1, 200)).then(x -> x.cutoff(3, 300));
        String later = day.stateAndLater();
        CHECK.due("21: restore", day.answer(x -> x.restore(1)), 3);
        CHECK.holds("21: as it was saved", saved.equals(day.then(x -> x.restore(1)).stateAndLater()));
        day.then(x -> x.pass(100));
        CHECK.due("21: the slot keeps it", day.answer(x -> x.restore(1)), 3);
        CHECK.holds("21: the slot keeps it", saved.equals(day.then(x -> x.restore(1)).stateAndLater()));
        CHECK.due("21: undo", day.answer(Face::undo), 5);
        CHECK.due("21: undo", day.then(Face::undo).answer(Face::undo), 4);
        CHECK.due("21: undo", day.then(Face::undo).answer(Face::undo), 3);
        CHECK.holds("21: as it was before", later.equals(day.then(Face::undo).stateAndLater()));
    }

    private static void restoreIsAChange() {
        Counted x = new Counted();
        x.save(0);
        Check.type(x, "t1");
        CHECK.due("21: restore", x.restore(0), 0);
        CHECK.due("21: recorded, also if nothing is different", x.count(18), 1);
        CHECK.due("21: the pad stays", x.count(17), 2);
        for (int change = 0; change < 9; change++) {
            x.restore(0);
        }
        CHECK.due("21: at most six", x.count(18), 6);
        x.pass(1440);
        CHECK.due("21: back to the morning", x.restore(0), 0);
        CHECK.due("21: back to the morning", x.count(0), 0);
    }
}
