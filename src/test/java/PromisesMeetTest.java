import java.util.ArrayList;
import java.util.List;

/**
 * What the promises say of one another, on days of many calls: what is asked in one way and in another, what would be and what
 * later calls show, texts and single calls, undo and restore behind each kind of call. No second program tells the answers.
 */
public final class PromisesMeetTest {
    private static final Check CHECK = new Check("PromisesMeetTest");
    private static final int DAYS_OF_A_KIND = 4;
    private static final int[] LOOKED_AT = {40, 95, 150, 205};

    private final String name;
    private final Days days;
    private final Run day;

    private PromisesMeetTest(String name, Days days, Run day) {
        this.name = name;
        this.days = days;
        this.day = day;
    }

    public static void main(String[] args) {
        for (Days.Kind kind : Days.Kind.values()) {
            for (int number = 0; number < DAYS_OF_A_KIND; number++) {
                lookAt(kind, 100 + number);
            }
        }
        CHECK.finish();
    }

    /** Leaves least() out, which would take long on each of the many objects; the tests of a day look at it. */
    private static void lookAt(Days.Kind kind, int number) {
        Days days = new Days(kind, number);
        PlainCentre chosenBy = new PlainCentre();
        Run day = new Run();
        for (int length : LOOKED_AT) {
            while (day.length() < length) {
                Days.Step step = days.next(chosenBy);
                step.call().on(chosenBy);
                if (!step.words().startsWith("least")) {
                    day.then(step.call());
                }
            }
            PromisesMeetTest test = new PromisesMeetTest(kind + " " + number + ", behind call " + length, days, day.copy());
            test.batches();
            test.machines();
            test.sums();
            test.minutesOneByOne();
            test.sortedAt();
            test.wouldMiss();
            test.least();
            test.textAndSingleCalls();
            test.undoBehindChanges();
            test.undoBehindTheRest();
            test.restoreBehindChanges();
            test.sixStates();
        }
    }

    private void due(String what, long got, long want) {
        CHECK.due(name + ": " + what, got, want);
    }

    private void holds(String what, boolean holds) {
        CHECK.holds(name + ": " + what, holds);
    }

    private void same(String what, Run got, Run want) {
        CHECK.same(name + ": " + what, got.stateAndLater(), want.stateAndLater());
    }

    private int count(int what) {
        return (int) day.answer(x -> x.count(what));
    }

    private int[] row(int length, AskedFor asked) {
        Counted x = day.made();
        int[] row = new int[length];
        for (int what = 0; what < length; what++) {
            row[what] = (int) asked.of(x, what);
        }
        return row;
    }

    private interface AskedFor {
        long of(Face x, int what);
    }

    // ---- what is asked in one way and in another

    private int[] batch(int number) {
        return row(11, (x, what) -> x.batch(number, what));
    }

    private void batches() {
        int now = count(0);
        for (int number = 0; number < count(1); number++) {
            int[] batch = batch(number);
            String which = "batch " + number + ": ";
            due(which + "pieces by where they are", batch[4] + batch[5] + batch[6] + batch[7], batch[1]);
            holds(which + "sorted as the last piece is", (batch[10] == -6) == (batch[4] + batch[5] > 0));
            if (batch[10] != -6) {
                holds(which + "sorted in a minute that is over", batch[10] >= batch[3] && batch[10] < now);
            }
            if (batch[3] >= now) {
                due(which + "all with the machine before it comes", batch[4], batch[1]);
                due(which + "none missed before it comes", batch[8], 0);
                due(which + "no delay before it comes", batch[9], 0);
            }
            holds(which + "missed", batch[8] >= 0 && batch[8] <= batch[1]);
            long set = day.answer(x -> x.delayed(batch[9]));
            due(which + "in the set of its delay", set >>> number & 1, 1);
        }
    }

    private void machines() {
        int now = count(0);
        int[] places = new int[40];
        for (int machine = 0; machine < 3; machine++) {
            int shape = machine;
            int[] told = row(6, (x, what) -> x.machine(shape, what));
            int[] queue = row(told[1] + 1, (x, place) -> x.queued(shape, place));
            due("the queue's end", queue[told[1]], -1);
            for (int place = 0; place < told[1]; place++) {
                places[queue[place]]++;
                due("the shape of queued batch " + queue[place], batch(queue[place])[0], machine);
                holds("a queued batch is delayed", batch(queue[place])[9] != 0);
            }
            holds("it is set up for a batch", told[2] == 0 || told[0] >= 0);
            if (told[0] >= 0) {
                places[told[0]]++;
                due("the route that it had last", told[3], batch(told[0])[2]);
                holds("it has pieces of its batch", batch(told[0])[4] > 0);
            }
        }
        for (int number = 0; number < count(1); number++) {
            int[] batch = batch(number);
            boolean there = batch[3] < now && batch[4] > 0;
            due("batch " + number + " is in a queue or its machine has it", places[number], there ? 1 : 0);
        }
    }

    private void sums() {
        int[] counts = row(19, Face::count);
        int[] all = new int[11];
        int[] sortedByMachine = new int[3];
        int[][] routes = new int[8][5];
        long[] delayed = new long[5];
        for (int number = 0; number < counts[1]; number++) {
            int[] batch = batch(number);
            for (int what = 0; what < 11; what++) {
                all[what] += batch[what];
            }
            sortedByMachine[batch[0]] += batch[1] - batch[4];
            int[] parts = {0, batch[7], batch[8], batch[6], batch[1]};
            for (int what = 1; what < 5; what++) {
                routes[batch[2]][what] += parts[what];
            }
            delayed[batch[9]] |= 1L << number;
        }
        int[][] sums = {{2, all[1]}, {4, all[5]}, {6, all[7]}, {7, all[8]}};
        for (int[] sum : sums) {
            due("count(" + sum[0] + ")", counts[sum[0]], sum[1]);
        }
        for (int machine = 0; machine < 3; machine++) {
            int shape = machine;
            due("sorted by machine " + machine, day.answer(x -> x.machine(shape, 4)), sortedByMachine[machine]);
        }
        for (int route = 0; route < 8; route++) {
            int one = route;
            int[] told = row(5, (x, what) -> x.route(one, what));
            for (int what = 1; what < 5; what++) {
                due("route(" + route + ", " + what + ")", told[what], routes[route][what]);
            }
        }
        for (int delay = 0; delay < 5; delay++) {
            int one = delay;
            due("delayed(" + delay + ")", day.answer(x -> x.delayed(one)), delayed[delay]);
        }
        holds("rejects", counts[3] >= counts[4]);
    }

    // ---- minutes

    private void minutesOneByOne() {
        int minutes = Math.min(1440 - count(0), 1 + days.any(40));
        if (minutes < 1) {
            due("the day is over", day.answer(x -> x.pass(1)), -5);
            return;
        }
        Run single = day.copy();
        for (int minute = 0; minute < minutes; minute++) {
            single.then(x -> x.pass(1));
        }
        Run text = day.copy().then(Face::wipe).then(x -> x.put(Check.packed("t" + minutes))).then(Face::carryOut);
        same(minutes + " minutes one by one", day.copy().then(x -> x.pass(minutes)), single);
        same(minutes + " minutes by a text", text, single);
    }

    // ---- what if

    private boolean isSortedBehind(int minutes) {
        Run later = minutes > 0 ? day.copy().then(x -> x.pass(minutes)) : day;
        for (int first = 0; first < 40; first += 20) {
            Counted x = later.made();
            for (int number = first; number < first + 20; number++) {
                if (x.batch(number, 4) > 0 || x.batch(number, 5) > 0) {
                    return false;
                }
            }
        }
        return true;
    }

    private void sortedAt() {
        int now = count(0);
        int minute = (int) day.answer(Face::sortedAt);
        if (minute == -6) {
            holds("not sorted by the end of the day", !isSortedBehind(1440 - now));
            return;
        }
        holds("sortedAt() is now or later", minute >= now && minute <= 1440);
        holds("all is sorted then", isSortedBehind(minute - now));
        holds("not a minute before", minute == now || !isSortedBehind(minute - 1 - now));
    }

    private void wouldMiss() {
        int now = count(0);
        int missed = (int) day.answer(Face::wouldMiss);
        Run later = now == 1440 ? day : day.copy().then(x -> x.pass(1440 - now));
        due("missed at the end of the day", later.answer(x -> x.count(7)), missed);
        if (now < 1440) {
            Run half = day.copy().then(x -> x.pass(1 + (1440 - now) / 2));
            due("wouldMiss() in between", half.answer(Face::wouldMiss), missed);
        }
    }

    /** Looks at each value of a setting whether it would do. */
    private void least() {
        int missed = (int) day.answer(Face::wouldMiss);
        int setting = days.pick(LetterRuns.STAFF, LetterRuns.SPEED0, LetterRuns.SPEED1, LetterRuns.SPEED2);
        int lowest = Sentences.LOWEST[setting];
        int highest = Sentences.HIGHEST[setting];
        int[] by = new int[highest + 1];
        for (int value = lowest; value <= highest; value++) {
            int one = value;
            by[value] = (int) day.copy().then(x -> x.set(setting, one)).answer(Face::wouldMiss);
        }
        int[] limits = {0, missed - 1, missed, missed + 1, by[lowest], by[highest], by[(lowest + highest) / 2] - 1, 40000};
        for (int limit : limits) {
            if (limit < 0) {
                continue;
            }
            int want = -6;
            for (int value = highest; value >= lowest; value--) {
                want = by[value] <= limit ? value : want;
            }
            due("least(" + setting + ", " + limit + ")", day.answer(x -> x.least(setting, limit)), want);
        }
    }

    // ---- texts

    private void textAndSingleCalls() {
        List<String> orders = new ArrayList<>();
        Run single = day.copy();
        boolean going = true;
        int carriedOut = 0;
        for (int wanted = 1 + days.any(4); wanted > 0; wanted--) {
            int now = (int) single.answer(x -> x.count(0));
            int route = days.any(8);
            int minute = now + days.any(6);
            int number = days.pick(1, 2, 3, 60, days.any(30));
            int shape = days.any(3);
            int kind = days.any(4);
            String[] order = {"t" + number, "s" + number, "c" + route + "=" + minute,
                "lfp".charAt(shape) + "" + number + ">" + route + "@" + minute};
            Run.Call[] call = {x -> x.pass(number), x -> x.set(LetterRuns.STAFF, number), x -> x.cutoff(route, minute),
                x -> x.mail(shape, number, route, minute)};
            orders.add(order[kind]);
            going = going && single.answer(call[kind]) >= 0;
            if (going) {
                carriedOut++;
                single.then(call[kind]);
            }
        }
        String text = String.join(";", orders);
        Run typed = day.copy().then(Face::wipe);
        for (int start = 0; start < text.length(); start += 8) {
            long packed = Check.packed(text.substring(start, Math.min(start + 8, text.length())));
            typed.then(x -> x.put(packed));
        }
        due("length of " + text, typed.answer(x -> x.count(17)), text.length());
        due("fault of " + text, typed.answer(Face::fault), -6);
        due("orders carried out of " + text, typed.answer(Face::carryOut), carriedOut);
        typed.then(Face::carryOut);
        same("text " + text, typed, single);
        due("the pad behind " + text, typed.answer(x -> x.count(17)), 0);
        due("changes behind " + text, typed.answer(x -> x.count(18)), Math.min(6, count(18) + 1));
        same("undo() of " + text, typed.copy().then(Face::undo), day);
    }

    // ---- undo and restore

    private Days.Step step(String words, Run.Call call) {
        return new Days.Step(words, call);
    }

    private Days.Step[] changes() {
        int now = count(0);
        int route = days.any(8);
        int setting = days.any(9);
        int shape = days.any(3);
        return new Days.Step[] {
            step("set", x -> x.set(setting, Sentences.LOWEST[setting])), step("set of the same", x -> x.set(setting, x.count(8 + setting))),
            step("cutoff for now", x -> x.cutoff(route, now)), step("cutoff", x -> x.cutoff(route, now + 3)),
            step("mail for now", x -> x.mail(shape, 33, route, now)), step("mail", x -> x.mail(shape, 150, route, now + 2)),
            step("pass(1)", x -> x.pass(1)), step("pass(7)", x -> x.pass(7)), step("pass to the end", x -> x.pass(1440 - now)),
            step("restore(0)", x -> x.restore(0)), step("restore(1)", x -> x.restore(1)),
            step("a text", x -> {
                x.wipe();
                Check.type(x, "s0;t2;l9>1@1439;c0=1439;t9");
                return x.carryOut();
            }),
            step("a text of which nothing is carried out", x -> {
                x.wipe();
                Check.type(x, "t0;s9");
                return x.carryOut();
            })
        };
    }

    private void undoBehindChanges() {
        int before = count(18);
        for (Days.Step change : changes()) {
            boolean refused = day.answer(change.call()) < 0;
            Run changed = day.copy().then(change.call());
            long changes = changed.answer(x -> x.count(18));
            due("changes behind " + change.words(), changes, refused ? before : Math.min(6, before + 1));
            if (refused) {
                same("refused: " + change.words(), changed, day);
            } else {
                due("undo() of " + change.words(), changed.answer(Face::undo), changes - 1);
                same("undo() of " + change.words(), changed.copy().then(Face::undo), day);
            }
        }
    }

    /** These are no changes: what is undone behind them is the change before them. */
    private void undoBehindTheRest() {
        Days.Step[] others = {
            step("questions", x -> x.batch(0, 4) + x.machine(0, 0) + x.route(0, 1) + x.count(5) + x.delayed(0) + x.queued(0, 0)),
            step("sortedAt", Face::sortedAt), step("wouldMiss", Face::wouldMiss), step("least", x -> x.least(LetterRuns.STAFF, 0)),
            step("put", x -> x.put(Check.packed("t1"))), step("wipe", Face::wipe), step("fault", Face::fault),
            step("carryOut of a fault", x -> x.put(Check.packed(";")) + x.carryOut()),
            step("save(0)", x -> x.save(0)), step("save(1)", x -> x.save(1)), step("save(2)", x -> x.save(2)),
            step("restore(2)", x -> x.restore(2)), step("set(9, 0)", x -> x.set(9, 0)), step("pass(0)", x -> x.pass(0)),
            step("mail to no route", x -> x.mail(0, 1, 8, x.count(0))), step("cutoff of no route", x -> x.cutoff(-1, x.count(0)))
        };
        int changes = count(18);
        Run undone = day.copy().then(Face::undo);
        for (Days.Step other : others) {
            Run with = day.copy().then(other.call());
            due("changes behind " + other.words(), with.answer(x -> x.count(18)), changes);
            due("undo() behind " + other.words(), with.answer(Face::undo), changes == 0 ? -5 : changes - 1);
            CHECK.same(name + ": nothing changes by " + other.words(), with.state(), day.state());
            CHECK.same(name + ": undone behind " + other.words(), with.copy().then(Face::undo).state(), undone.state());
        }
    }

    private void restoreBehindChanges() {
        Run saved = day.copy().then(x -> x.save(1));
        due("save(1)", day.answer(x -> x.save(1)), count(1));
        Run later = saved.copy();
        for (Days.Step change : changes()) {
            if (!change.words().startsWith("restore")) {
                later.then(change.call());
            }
        }
        due("restore(1)", later.answer(x -> x.restore(1)), count(1));
        Run restored = later.copy().then(x -> x.restore(1));
        same("restore(1)", restored, day);
        same("undo() of restore(1)", restored.copy().then(Face::undo), later);
        same("restore(1) once more", restored.copy().then(x -> x.pass(2)).then(x -> x.restore(1)), day);
    }

    /** Seven changes, of which six are kept, and then undone one by one. */
    private void sixStates() {
        List<Run> states = new ArrayList<>();
        Run changed = day.copy();
        int now = count(0);
        for (int change = 0; change < 7; change++) {
            states.add(changed.copy());
            int value = change;
            switch (change % 3) {
                case 0: changed.then(x -> x.set(LetterRuns.HAND, 1 + value)); break;
                case 1: changed.then(x -> x.set(LetterRuns.SPEED0, 20 + value)); break;
                default: changed.then(x -> now < 1430 ? x.pass(1) : x.set(LetterRuns.SETUP, value)); break;
            }
        }
        due("at most six", changed.answer(x -> x.count(18)), 6);
        for (int left = 5; left >= 0; left--) {
            due("undo()", changed.answer(Face::undo), left);
            changed.then(Face::undo);
            CHECK.same(name + ": " + left + " can be undone yet", changed.state(), states.get(left + 1).state());
        }
        due("undo() of the oldest one", changed.answer(Face::undo), -5);
    }
}
