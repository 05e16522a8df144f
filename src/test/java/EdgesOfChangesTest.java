/** Sentences of the promises 1 to 5: a new object, set, cutoff, mail, pass. */
public final class EdgesOfChangesTest extends Sentences {
    public static void main(String[] args) throws Exception {
        new EdgesOfChangesTest().run();
    }

    // ---- promise 1

    void promise1WithoutMail() {
        sentence("Promise 1:", "Creates a centre without mail.");
        Counted x = new Counted();
        int[] counts = {0, 0, 0, 0, 0, 0, 0, 0, 3, 20, 2, 5, 480, 0, 50, 30, 10, 0, 0};
        for (int what = 0; what < counts.length; what++) {
            due("count(" + what + ")", x.count(what), counts[what]);
        }
        int[] machine = {NONE, 0, 0, NONE, 0, 0};
        for (int what = 0; what < machine.length; what++) {
            for (int shape = 0; shape < 3; shape++) {
                due("machine(" + shape + ", " + what + ")", x.machine(shape, what), machine[what]);
            }
        }
        for (int route = 0; route < 8; route++) {
            for (int what = 0; what <= 4; what++) {
                due("route(" + route + ", " + what + ")", x.route(route, what), what == 0 ? 720 : 0);
            }
        }
        for (int delay = 0; delay <= 4; delay++) {
            due("delayed(" + delay + ")", x.delayed(delay), 0);
        }
        due("batch(0, 0)", x.batch(0, 0), NO_SUCH);
        due("queued(0, 0)", x.queued(0, 0), NO_SUCH);
        due("sortedAt()", x.sortedAt(), 0);
        due("wouldMiss()", x.wouldMiss(), 0);
        due("least(STAFF, 0)", x.least(STAFF, 0), 0);
        due("fault()", x.fault(), 0);
        due("wipe()", x.wipe(), 0);
        due("undo()", x.undo(), NOT_POSSIBLE);
        due("restore(0)", x.restore(0), NOT_POSSIBLE);
        due("restore(1)", x.restore(1), NOT_POSSIBLE);
    }

    void promise1OneOfItsOwn() {
        sentence("Promise 1:", "Creates a centre");
        String fresh = numbers(new Counted());
        Counted other = new Counted();
        made(Sentences::busy);
        same("another object is not this one", numbers(other), fresh);
    }

    // ---- promise 2

    void promise2IsAChange() {
        sentence("Promise 2:", "Changes a setting. This is a change.");
        for (int setting = 0; setting <= 8; setting++) {
            Counted x = new Counted();
            x.set(setting, HIGHEST[setting]);
            for (int other = 0; other <= 8; other++) {
                due("setting " + other, x.count(8 + other), other == setting ? HIGHEST[other] : FIRST[other]);
            }
            due("can be undone", x.count(18), 1);
            x.set(setting, HIGHEST[setting]);
            due("also if nothing is different then", x.count(18), 2);
            due("undo", x.undo(), 1);
            due("undo", x.undo(), 0);
            due("as it was", x.count(8 + setting), FIRST[setting]);
        }
    }

    void promise2Previous() {
        sentence("Promise 2:", "Returns the previous value");
        for (int setting = 0; setting <= 8; setting++) {
            Counted x = new Counted();
            int[] values = {LOWEST[setting], HIGHEST[setting], HIGHEST[setting], LOWEST[setting], LOWEST[setting]};
            int previous = FIRST[setting];
            for (int value : values) {
                due("set(" + setting + ", " + value + ")", x.set(setting, value), previous);
                previous = value;
            }
        }
        Counted end = new Counted();
        end.pass(1440);
        due("also at the end of the day", end.set(STAFF, 20), 2);
    }

    void promise2NoSuchSetting() {
        sentence("Promise 2:", "BAD_VALUE if there is no such setting");
        refused("set(-1, 1)", x -> x.set(-1, 1), BAD_VALUE);
        refused("set(9, 1)", x -> x.set(9, 1), BAD_VALUE);
        for (int far : FAR_BELOW) {
            refused("set(" + far + ", 1)", x -> x.set(far, 1), BAD_VALUE);
        }
        for (int far : FAR_ABOVE) {
            refused("set(" + far + ", 1)", x -> x.set(far, 1), BAD_VALUE);
        }
    }

    void promise2ValueOutOfRange() {
        sentence("Promise 2:", "or the value is out of its range.");
        for (int one = 0; one <= 8; one++) {
            int setting = one;
            refused("below, " + setting, x -> x.set(setting, LOWEST[setting] - 1), BAD_VALUE);
            refused("above, " + setting, x -> x.set(setting, HIGHEST[setting] + 1), BAD_VALUE);
            for (int far : FAR_BELOW) {
                refused("set(" + setting + ", " + far + ")", x -> x.set(setting, far), BAD_VALUE);
            }
            for (int far : FAR_ABOVE) {
                refused("set(" + setting + ", " + far + ")", x -> x.set(setting, far), BAD_VALUE);
            }
        }
    }

    // ---- promise 3

    void promise3IsAChange() {
        sentence("Promise 3:", "Changes the cutoff of a route. This is a change.");
        for (int route = 0; route < 8; route++) {
            Counted x = new Counted();
            x.cutoff(route, 99);
            for (int other = 0; other < 8; other++) {
                due("route " + other, x.route(other, 0), other == route ? 99 : 720);
            }
            due("can be undone", x.count(18), 1);
            x.cutoff(route, 99);
            due("also if nothing is different then", x.count(18), 2);
            due("undo", x.undo(), 1);
            due("undo", x.undo(), 0);
            due("as it was", x.route(route, 0), 720);
        }
    }

    void promise3Minute() {
        sentence("Promise 3:", "- `minute`: the minute of now to 1439");
        int[] minutes = {0, 1, 719, 720, 721, 1438, 1439};
        for (int now : minutes) {
            Counted x = now == 0 ? new Counted() : made(c -> c.pass(now));
            due("the minute of now, " + now, x.cutoff(0, now), 720);
            due("the last minute", x.cutoff(0, 1439), now);
            due("it is this one", x.route(0, 0), 1439);
        }
    }

    void promise3Previous() {
        sentence("Promise 3:", "Returns the previous one");
        Counted x = new Counted();
        int[] minutes = {0, 1439, 1439, 720, 1};
        int previous = 720;
        for (int minute : minutes) {
            due("cutoff(7, " + minute + ")", x.cutoff(7, minute), previous);
            previous = minute;
        }
        due("another route's", x.cutoff(0, 5), 720);
        x.pass(9);
        due("also if it is over", x.cutoff(7, 9), 1);
    }

    void promise3NoSuchRoute() {
        sentence("Promise 3:", "NO_SUCH if there is no such route");
        refused("cutoff(-1, 50)", x -> x.cutoff(-1, 50), NO_SUCH);
        refused("cutoff(8, 50)", x -> x.cutoff(8, 50), NO_SUCH);
        refused("cutoff(8, -50)", x -> x.cutoff(8, -50), NO_SUCH);
        for (int far : FAR_BELOW) {
            refused("cutoff(" + far + ", 50)", x -> x.cutoff(far, 50), NO_SUCH);
        }
        for (int far : FAR_ABOVE) {
            refused("cutoff(" + far + ", 50)", x -> x.cutoff(far, 50), NO_SUCH);
        }
    }

    void promise3MinuteOutOfRange() {
        sentence("Promise 3:", "BAD_VALUE if minute is out of range.");
        refused("cutoff(0, -1)", x -> x.cutoff(0, -1), BAD_VALUE);
        refused("cutoff(7, 1440)", x -> x.cutoff(7, 1440), BAD_VALUE);
        for (int far : FAR_BELOW) {
            refused("cutoff(1, " + far + ")", x -> x.cutoff(1, far), BAD_VALUE);
        }
        for (int far : FAR_ABOVE) {
            refused("cutoff(1, " + far + ")", x -> x.cutoff(1, far), BAD_VALUE);
        }
        int[] minutes = {1, 720, 721, 1439, 1440};
        for (int now : minutes) {
            refused(x -> x.pass(now), "before now, " + now, x -> x.cutoff(1, now - 1), BAD_VALUE);
            refused(x -> x.pass(now), "behind the day, " + now, x -> x.cutoff(1, 1440), BAD_VALUE);
        }
    }

    // ---- promise 4

    void promise4IsAChange() {
        sentence("Promise 4:", "Tells a batch. This is a change.");
        Counted x = new Counted();
        x.mail(2, 33, 7, 5);
        due("a batch", x.count(1), 1);
        due("its pieces", x.count(2), 33);
        due("of its route", x.route(7, 4), 33);
        due("can be undone", x.count(18), 1);
        x.pass(6);
        due("it came", x.machine(2, 0), 0);
        due("undo", x.undo(), 1);
        due("undo", x.undo(), 0);
        due("no batch", x.count(1), 0);
        due("no pieces", x.count(2), 0);
        x.pass(20);
        due("none comes", x.machine(2, 0), NONE);
    }

    void promise4Shape() {
        sentence("Promise 4:", "- `shape`: 0 to 2");
        for (int shape = 0; shape <= 2; shape++) {
            Counted x = new Counted();
            due("shape " + shape, x.mail(shape, 1, 0, 0), 0);
            due("its shape", x.batch(0, 0), shape);
            x.pass(1);
            for (int machine = 0; machine <= 2; machine++) {
                due("machine " + machine, x.machine(machine, 0), machine == shape ? 0 : NONE);
            }
        }
    }

    void promise4Pieces() {
        sentence("Promise 4:", "- `pieces`: 1 to 999");
        int[] numbers = {1, 2, 998, 999};
        for (int pieces : numbers) {
            Counted x = plain(0, 0, 0, 1);
            due(pieces + " pieces", x.mail(0, pieces, 0, 0), 0);
            due("its pieces", x.batch(0, 1), pieces);
            x.pass(1000);
            due("all gone", x.count(6), pieces);
        }
        Counted most = plain(0, 0, 0, 1);
        for (int batch = 0; batch < 40; batch++) {
            most.mail(batch % 3, 999, 0, 0);
        }
        due("40 times 999", most.count(2), 39960);
    }

    void promise4Route() {
        sentence("Promise 4:", "- `route`: 0 to 7");
        for (int route = 0; route <= 7; route++) {
            Counted x = new Counted();
            due("route " + route, x.mail(0, 9, route, 0), 0);
            due("its route", x.batch(0, 2), route);
            for (int other = 0; other <= 7; other++) {
                due("pieces of route " + other, x.route(other, 4), other == route ? 9 : 0);
            }
        }
    }

    void promise4Minute() {
        sentence("Promise 4:", "- `minute`: the minute of now to 1439");
        int[] minutes = {0, 1, 720, 1438, 1439};
        for (int now : minutes) {
            Counted x = now == 0 ? new Counted() : made(c -> c.pass(now));
            due("the minute of now, " + now, x.mail(0, 1, 0, now), 0);
            due("the last minute", x.mail(1, 1, 0, 1439), 1);
            due("it does not come before the minute passes", x.machine(0, 0), NONE);
            x.pass(1440 - now);
            due("both came", x.delayed(0), 0);
        }
    }

    void promise4Number() {
        sentence("Promise 4:", "Returns its number");
        Counted x = new Counted();
        due("the first one", x.mail(2, 1, 0, 50), 0);
        due("the next one", x.mail(0, 1, 0, 0), 1);
        x.pass(100);
        due("behind those that are sorted", x.mail(0, 1, 0, 100), 2);
        x.undo();
        due("the number of one that was undone", x.mail(1, 1, 0, 0), BAD_VALUE);
        due("the number of one that was undone", x.mail(1, 1, 0, 100), 2);
    }

    void promise4ANewBatch() {
        sentence("Promise 4:", "Tells a batch.");
        Counted x = plain(0, 500, 1, 1);
        x.cutoff(0, 1);
        x.save(0);
        x.mail(0, 50, 0, 0);
        x.pass(4);
        pieces("a batch of before", x, 0, 0, 21, 3, 26, 24);
        due("it was rejected", x.batch(0, 9), 3);
        x.restore(0);
        due("its number is free", x.mail(2, 7, 3, 2), 0);
        pieces("nothing of it stays", x, 0, 7, 0, 0, 0, 0);
        due("no delay", x.batch(0, 9), 0);
        due("not sorted", x.batch(0, 10), NONE);
        Counted sorted = plain(0, 0, 1, 1);
        sorted.save(0);
        sorted.mail(0, 50, 0, 0);
        sorted.pass(1);
        due("it was sorted", sorted.batch(0, 10), 0);
        sorted.restore(0);
        sorted.mail(1, 7, 3, 0);
        due("not this one", sorted.batch(0, 10), NONE);
        due("not this one", sorted.batch(0, 6), 0);
    }

    void promise4NoSuchShapeOrRoute() {
        sentence("Promise 4:", "NO_SUCH if there is no such shape or route");
        int[][] wrong = {{-1, 0}, {3, 0}, {0, -1}, {0, 8}, {3, 8}, {-1, -1}, {2, 8}, {3, 7}};
        for (int[] row : wrong) {
            refused("mail(" + row[0] + ", 1, " + row[1] + ", 50)", x -> x.mail(row[0], 1, row[1], 50), NO_SUCH);
        }
        for (int far : FAR_BELOW) {
            refused("mail(" + far + ", 1, 0, 50)", x -> x.mail(far, 1, 0, 50), NO_SUCH);
            refused("mail(0, 1, " + far + ", 50)", x -> x.mail(0, 1, far, 50), NO_SUCH);
        }
        for (int far : FAR_ABOVE) {
            refused("mail(" + far + ", 1, 0, 50)", x -> x.mail(far, 1, 0, 50), NO_SUCH);
            refused("mail(0, 1, " + far + ", 50)", x -> x.mail(0, 1, far, 50), NO_SUCH);
            refused("mail(0, " + far + ", 8, 50)", x -> x.mail(0, far, 8, 50), NO_SUCH);
        }
    }

    void promise4PiecesOrMinuteOutOfRange() {
        sentence("Promise 4:", "BAD_VALUE if pieces or minute is out of range");
        int[][] wrong = {{0, 50}, {-1, 50}, {1000, 50}, {1, -1}, {1, 1440}, {999, 1440}, {0, 1440}};
        for (int[] row : wrong) {
            refused("mail(0, " + row[0] + ", 0, " + row[1] + ")", x -> x.mail(0, row[0], 0, row[1]), BAD_VALUE);
        }
        for (int far : FAR_BELOW) {
            refused("mail(2, " + far + ", 7, 50)", x -> x.mail(2, far, 7, 50), BAD_VALUE);
            refused("mail(2, 1, 7, " + far + ")", x -> x.mail(2, 1, 7, far), BAD_VALUE);
        }
        for (int far : FAR_ABOVE) {
            refused("mail(2, " + far + ", 7, 50)", x -> x.mail(2, far, 7, 50), BAD_VALUE);
            refused("mail(2, 1, 7, " + far + ")", x -> x.mail(2, 1, 7, far), BAD_VALUE);
        }
        int[] minutes = {1, 720, 1439, 1440};
        for (int now : minutes) {
            refused(x -> x.pass(now), "before now, " + now, x -> x.mail(0, 1, 0, now - 1), BAD_VALUE);
            refused(x -> x.pass(now), "behind the day, " + now, x -> x.mail(0, 1, 0, 1440), BAD_VALUE);
        }
    }

    void promise4TooMany() {
        sentence("Promise 4:", "TOO_MANY if there are 40 batches.");
        Counted x = new Counted();
        for (int batch = 0; batch < 39; batch++) {
            x.mail(0, 1, 0, 0);
        }
        due("the 40th", x.mail(0, 1, 0, 0), 39);
        due("the 41st", x.mail(0, 1, 0, 0), TOO_MANY);
        x.pass(1439);
        due("also if all are gone", x.mail(0, 1, 0, 1439), TOO_MANY);
        refused(EdgesOfChangesTest::all40, "with 40 batches", c -> c.mail(1, 999, 7, 1439), TOO_MANY);
        refused(EdgesOfChangesTest::all40, "with 40 batches and wrong pieces", c -> c.mail(1, 1000, 7, 1439), BAD_VALUE);
        refused(EdgesOfChangesTest::all40, "with 40 batches and a wrong route", c -> c.mail(1, 999, 8, 1439), NO_SUCH);
    }

    private static void all40(Counted x) {
        for (int batch = 0; batch < 40; batch++) {
            x.mail(batch % 3, 20 + batch, batch % 8, batch);
        }
        x.cutoff(3, 25);
        x.save(1);
        x.pass(20);
    }

    // ---- promise 5

    void promise5IsAChange() {
        sentence("Promise 5:", "Lets minutes pass. This is a change.");
        Counted x = new Counted();
        x.mail(0, 50, 0, 0);
        x.pass(2);
        x.pass(2);
        due("four minutes: three to set up, one to sort", x.machine(0, 4), 50);
        due("undo", x.undo(), 2);
        due("not sorted", x.machine(0, 4), 0);
        due("one minute to set up", x.machine(0, 2), 1);
        due("undo", x.undo(), 1);
        due("not taken", x.machine(0, 0), NONE);
        due("the minute of before", x.count(0), 0);
    }

    void promise5OneOrMore() {
        sentence("Promise 5:", "- `minutes`: 1 or more");
        int[] minutes = {1, 2, 1439, 1440};
        for (int some : minutes) {
            Counted x = new Counted();
            due("pass(" + some + ")", x.pass(some), some);
        }
        Counted at = new Counted();
        Counted once = new Counted();
        busy(at);
        busy(once);
        for (int minute = 0; minute < 60; minute++) {
            at.pass(1);
        }
        once.pass(60);
        once.set(OVER, 0);
        for (int change = 0; change < 6; change++) {
            at.set(OVER, 0);
            once.set(OVER, 0);
        }
        same("60 times a minute are an hour", numbers(at), numbers(once));
        same("60 times a minute are an hour", batches(at, 0, 4), batches(once, 0, 4));
    }

    void promise5MinuteOfNow() {
        sentence("Promise 5:", "Returns the minute of now then");
        Counted x = new Counted();
        int[] minutes = {1, 10, 100, 1000, 328, 1};
        int now = 0;
        for (int some : minutes) {
            now += some;
            due("pass(" + some + ")", x.pass(some), now);
            due("the minute of now", x.count(0), now);
        }
        due("the day is over", now, 1440);
    }

    void promise5LessThan1() {
        sentence("Promise 5:", "BAD_VALUE if minutes is less than 1");
        refused("pass(0)", x -> x.pass(0), BAD_VALUE);
        refused("pass(-1)", x -> x.pass(-1), BAD_VALUE);
        refused("pass(-1440)", x -> x.pass(-1440), BAD_VALUE);
        for (int far : FAR_BELOW) {
            refused("pass(" + far + ")", x -> x.pass(far), BAD_VALUE);
            refused(x -> x.pass(1440), "pass(" + far + ") at the end", x -> x.pass(far), BAD_VALUE);
        }
        refused(x -> x.pass(1440), "pass(0) at the end", x -> x.pass(0), BAD_VALUE);
    }

    void promise5Above1440() {
        sentence("Promise 5:", "NOT_POSSIBLE if it would be above 1440.");
        refused("pass(1441)", x -> x.pass(1441), NOT_POSSIBLE);
        for (int far : FAR_ABOVE) {
            refused("pass(" + far + ")", x -> x.pass(far), NOT_POSSIBLE);
        }
        int[] minutes = {1, 720, 1439, 1440};
        for (int now : minutes) {
            refused(x -> x.pass(now), "a minute too many, " + now, x -> x.pass(1441 - now), NOT_POSSIBLE);
            refused(x -> x.pass(now), "far too many, " + now, x -> x.pass(Integer.MAX_VALUE), NOT_POSSIBLE);
            refused(x -> x.pass(now), "as many as a day, " + now, x -> x.pass(1440), NOT_POSSIBLE);
        }
    }
}
