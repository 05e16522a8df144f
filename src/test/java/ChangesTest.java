/** Promises 1 to 5: a new object, set, cutoff, mail, pass. */
public final class ChangesTest {
    private static final Check CHECK = new Check("ChangesTest");

    public static void main(String[] args) {
        newObject();
        set();
        setAtTheEdges();
        cutoff();
        mail();
        mailTooMany();
        pass();
        CHECK.finish();
    }

    private static void newObject() {
        Counted x = new Counted();
        int[] counts = {0, 0, 0, 0, 0, 0, 0, 0, 3, 20, 2, 5, 480, 0, 50, 30, 10, 0, 0};
        for (int what = 0; what < counts.length; what++) {
            CHECK.due("1: count(" + what + ")", x.count(what), counts[what]);
        }
        for (int route = 0; route < 8; route++) {
            CHECK.due("1: route(" + route + ", 0)", x.route(route, 0), 720);
            for (int what = 1; what <= 4; what++) {
                CHECK.due("1: route(" + route + ", " + what + ")", x.route(route, what), 0);
            }
        }
        int[] machine = {-6, 0, 0, -6, 0, 0};
        for (int shape = 0; shape < 3; shape++) {
            for (int what = 0; what < machine.length; what++) {
                CHECK.due("1: machine(" + shape + ", " + what + ")", x.machine(shape, what), machine[what]);
            }
            CHECK.due("1: queued", x.queued(shape, 0), -1);
        }
        for (int delay = 0; delay <= 4; delay++) {
            CHECK.due("1: delayed", x.delayed(delay), 0);
        }
        CHECK.due("1: batch", x.batch(0, 0), -1);
        CHECK.due("1: sortedAt", x.sortedAt(), 0);
        CHECK.due("1: wouldMiss", x.wouldMiss(), 0);
        CHECK.due("1: fault", x.fault(), 0);
        CHECK.due("1: undo", x.undo(), -5);
        CHECK.due("1: restore(0)", x.restore(0), -5);
        CHECK.due("1: restore(1)", x.restore(1), -5);
        Counted other = new Counted();
        x.mail(0, 5, 0, 0);
        x.set(0, 9);
        CHECK.due("1: another object's mail", other.count(1), 0);
        CHECK.due("1: another object's setting", other.count(8), 3);
    }

    private static void set() {
        Counted x = new Counted();
        CHECK.due("2: set(STAFF, 7)", x.set(LetterRuns.STAFF, 7), 2);
        CHECK.due("2: set(STAFF, 0)", x.set(LetterRuns.STAFF, 0), 7);
        CHECK.due("2: set(STAFF, 0) again", x.set(LetterRuns.STAFF, 0), 0);
        CHECK.due("2: count(10)", x.count(10), 0);
        CHECK.due("2: recorded, also what changed nothing", x.count(18), 3);
        CHECK.due("2: set(-1, 0)", x.set(-1, 0), -2);
        CHECK.due("2: set(9, 1)", x.set(9, 1), -2);
        CHECK.due("2: set(MIN, MIN)", x.set(Integer.MIN_VALUE, Integer.MIN_VALUE), -2);
        CHECK.due("2: set(MAX, MAX)", x.set(Integer.MAX_VALUE, Integer.MAX_VALUE), -2);
        CHECK.due("2: an error records nothing", x.count(18), 3);
        x.pass(1440);
        CHECK.due("2: set at the end of the day", x.set(LetterRuns.HAND, 50), 5);
    }

    private static void setAtTheEdges() {
        int[] lowest = {0, 0, 0, 1, 0, 0, 1, 1, 1};
        int[] highest = {30, 500, 20, 50, 1440, 1, 100, 100, 100};
        int[] first = {3, 20, 2, 5, 480, 0, 50, 30, 10};
        Counted x = new Counted();
        for (int setting = 0; setting < 9; setting++) {
            CHECK.due("2: below " + setting, x.set(setting, lowest[setting] - 1), -2);
            CHECK.due("2: above " + setting, x.set(setting, highest[setting] + 1), -2);
            CHECK.due("2: lowest " + setting, x.set(setting, lowest[setting]), first[setting]);
            CHECK.due("2: highest " + setting, x.set(setting, highest[setting]), lowest[setting]);
            CHECK.due("2: now " + setting, x.count(8 + setting), highest[setting]);
        }
        CHECK.due("2: constants", LetterRuns.SETUP, 0);
        CHECK.due("2: constants", LetterRuns.REJECT, 1);
        CHECK.due("2: constants", LetterRuns.SHIFT, 4);
        CHECK.due("2: constants", LetterRuns.SPEED2, 8);
    }

    private static void cutoff() {
        Counted x = new Counted();
        CHECK.due("3: cutoff(0, 0)", x.cutoff(0, 0), 720);
        CHECK.due("3: cutoff(7, 1439)", x.cutoff(7, 1439), 720);
        CHECK.due("3: cutoff(7, 1438)", x.cutoff(7, 1438), 1439);
        CHECK.due("3: others stay", x.route(6, 0), 720);
        CHECK.due("3: route(7, 0)", x.route(7, 0), 1438);
        CHECK.due("3: recorded", x.count(18), 3);
        CHECK.due("3: no route", x.cutoff(8, 5), -1);
        CHECK.due("3: no route", x.cutoff(-1, 5), -1);
        CHECK.due("3: no route before a wrong minute", x.cutoff(8, -5), -1);
        CHECK.due("3: minute -1", x.cutoff(0, -1), -2);
        CHECK.due("3: minute 1440", x.cutoff(0, 1440), -2);
        CHECK.due("3: extreme", x.cutoff(Integer.MIN_VALUE, Integer.MAX_VALUE), -1);
        x.pass(10);
        CHECK.due("3: before now", x.cutoff(1, 9), -2);
        CHECK.due("3: now", x.cutoff(1, 10), 720);
        CHECK.due("3: route(1, 0)", x.route(1, 0), 10);
        CHECK.due("3: errors record nothing", x.count(18), 5);
        x.pass(1430);
        CHECK.due("3: at the end of the day", x.cutoff(1, 1439), -2);
        CHECK.due("3: at the end of the day", x.cutoff(1, 1440), -2);
    }

    private static void mail() {
        Counted x = new Counted();
        CHECK.due("4: first", x.mail(2, 999, 7, 1439), 0);
        CHECK.due("4: second", x.mail(0, 1, 0, 0), 1);
        CHECK.due("4: shape", x.batch(0, 0), 2);
        CHECK.due("4: pieces", x.batch(0, 1), 999);
        CHECK.due("4: route", x.batch(0, 2), 7);
        CHECK.due("4: minute", x.batch(0, 3), 1439);
        CHECK.due("4: it is not in the queue before it comes", x.queued(0, 0), -1);
        CHECK.due("4: recorded", x.count(18), 2);
        CHECK.due("4: shape -1", x.mail(-1, 1, 0, 0), -1);
        CHECK.due("4: shape 3", x.mail(3, 1, 0, 0), -1);
        CHECK.due("4: route -1", x.mail(0, 1, -1, 0), -1);
        CHECK.due("4: route 8", x.mail(0, 1, 8, 0), -1);
        CHECK.due("4: route before pieces", x.mail(0, 0, 8, -1), -1);
        CHECK.due("4: pieces 0", x.mail(0, 0, 0, 0), -2);
        CHECK.due("4: pieces 1000", x.mail(0, 1000, 0, 0), -2);
        CHECK.due("4: minute -1", x.mail(0, 1, 0, -1), -2);
        CHECK.due("4: minute 1440", x.mail(0, 1, 0, 1440), -2);
        CHECK.due("4: errors record nothing", x.count(18), 2);
        CHECK.due("4: errors tell nothing", x.count(1), 2);
        x.pass(3);
        CHECK.due("4: before now", x.mail(0, 1, 0, 2), -2);
        CHECK.due("4: now", x.mail(0, 1, 0, 3), 2);
        CHECK.due("4: not yet in the queue", x.machine(0, 1), 0);
    }

    private static void mailTooMany() {
        Counted x = new Counted();
        for (int number = 0; number < 40; number++) {
            CHECK.due("4: mail " + number, x.mail(number % 3, 1 + number, number % 8, number), number);
        }
        CHECK.due("4: a batch more", x.mail(0, 1, 0, 100), -4);
        CHECK.due("4: shape first", x.mail(3, 1, 0, 100), -1);
        CHECK.due("4: pieces first", x.mail(0, 0, 0, 100), -2);
        CHECK.due("4: minute first", x.mail(0, 1, 0, 1440), -2);
        CHECK.due("4: count(1)", x.count(1), 40);
        CHECK.due("4: count(2)", x.count(2), 820);
        CHECK.due("4: batch 39", x.batch(39, 1), 40);
        CHECK.due("4: all without a delay", x.delayed(0), (1L << 40) - 1);
        CHECK.due("4: undo", x.undo(), 5);
        CHECK.due("4: then there is room", x.mail(1, 999, 0, 100), 39);
    }

    private static void pass() {
        Counted x = new Counted();
        CHECK.due("5: pass(0)", x.pass(0), -2);
        CHECK.due("5: pass(-1)", x.pass(-1), -2);
        CHECK.due("5: pass(MIN)", x.pass(Integer.MIN_VALUE), -2);
        CHECK.due("5: pass(1441)", x.pass(1441), -5);
        CHECK.due("5: pass(MAX)", x.pass(Integer.MAX_VALUE), -5);
        CHECK.due("5: errors record nothing", x.count(18), 0);
        CHECK.due("5: pass(1)", x.pass(1), 1);
        CHECK.due("5: pass(MAX)", x.pass(Integer.MAX_VALUE), -5);
        CHECK.due("5: pass(1440)", x.pass(1440), -5);
        CHECK.due("5: pass(1438)", x.pass(1438), 1439);
        CHECK.due("5: pass(2)", x.pass(2), -5);
        CHECK.due("5: count(0)", x.count(0), 1439);
        CHECK.due("5: pass(1)", x.pass(1), 1440);
        CHECK.due("5: pass(1)", x.pass(1), -5);
        CHECK.due("5: pass(0)", x.pass(0), -2);
        CHECK.due("5: recorded", x.count(18), 3);
        Counted whole = new Counted();
        CHECK.due("5: pass(1440)", whole.pass(1440), 1440);
    }
}
