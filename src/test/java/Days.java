import java.util.ArrayDeque;

/**
 * Calls that make up a day in which the promises meet, chosen by a row of numbers that is always the same. What a centre
 * answers is looked at in choosing, so that batches are there, minutes are near, and queues and rows are not empty.
 */
final class Days {
    /** A call, and its words for whoever reads that it answered wrong. */
    record Step(String words, Run.Call call) {
    }

    /** What most of a day is about. */
    enum Kind {
        MORNING, CROWD, CUTOFFS, OVERTIME, END_OF_DAY, TEXTS, HISTORY, WHAT_IF
    }

    private static final int SET = 0, CUTOFF = 1, MAIL = 2, PASS = 3, TEXT = 4, UNDO = 5, SAVE = 6, RESTORE = 7, WHAT_IF = 8;

    /** How often each of these is chosen, by the kind of the day; what is left to 100 are questions. */
    private static final int[][] SHARES = {
        {5, 4, 14, 14, 2, 2, 1, 1, 3},
        {6, 4, 14, 14, 2, 2, 1, 1, 2},
        {4, 14, 12, 14, 2, 2, 1, 1, 3},
        {12, 4, 10, 14, 2, 2, 1, 1, 3},
        {6, 7, 10, 10, 3, 4, 2, 2, 3},
        {2, 2, 4, 6, 12, 2, 1, 1, 2},
        {6, 6, 14, 16, 3, 5, 4, 5, 2},
        {6, 5, 10, 9, 2, 3, 1, 1, 7},
    };

    private final Kind kind;
    private final ArrayDeque<Step> next = new ArrayDeque<>();
    private final int mostPieces;
    private final int hurry;
    private long seed;

    Days(Kind kind, int number) {
        this.kind = kind;
        seed = 1000L * number + kind.ordinal();
        mostPieces = number == 0 ? 999 : number % 6 < 3 ? 9 : 130;
        hurry = number % 3 == 0 ? 3 : number % 3 == 1 ? 8 : 40;
        begin();
    }

    /** A number from 0 to below the bound; rows that begin with seeds side by side are not alike. */
    int any(int bound) {
        seed += 0x9E3779B97F4A7C15L;
        long mixed = (seed ^ seed >>> 30) * 0xBF58476D1CE4E5B9L;
        mixed = (mixed ^ mixed >>> 27) * 0x94D049BB133111EBL;
        return (int) ((mixed ^ mixed >>> 31) >>> 33) % bound;
    }

    int pick(int... numbers) {
        return numbers[any(numbers.length)];
    }

    private boolean once(int in) {
        return any(in) == 0;
    }

    private void add(String words, Run.Call call) {
        next.add(new Step(words, call));
    }

    /** The next call; x is a centre on which all calls so far were made. */
    Step next(Face x) {
        if (next.isEmpty()) {
            choose(x);
        }
        return next.remove();
    }

    // ---- how a day begins

    private void begin() {
        addSave(0);
        boolean crowd = kind == Kind.CROWD;
        boolean late = kind == Kind.OVERTIME || kind == Kind.END_OF_DAY;
        addSet(LetterRuns.SETUP, pick(0, 1, 2, 3, 7));
        addSet(LetterRuns.REJECT, crowd || late ? pick(250, 400, 500) : pick(0, 20, 100, 333, 500));
        addSet(LetterRuns.STAFF, crowd ? 1 : late ? 1 + any(2) : pick(0, 1, 2, 5));
        addSet(LetterRuns.HAND, late ? 1 : pick(1, 2, 5));
        for (int shape = 0; shape < 3; shape++) {
            addSet(LetterRuns.SPEED0 + shape, crowd ? pick(1, 2, 7) : pick(3, 7, 10, 50));
        }
        if (kind == Kind.OVERTIME) {
            addSet(LetterRuns.SHIFT, pick(0, 5, 20));
            addSet(LetterRuns.OVER, any(2));
        }
        if (kind == Kind.END_OF_DAY) {
            addSet(LetterRuns.SHIFT, pick(480, 1430, 1437, 1440));
            addSet(LetterRuns.OVER, any(2));
            addPass(pick(1400, 1425, 1434));
            addSave(0);
        }
    }

    // ---- what is chosen

    private void choose(Face x) {
        if (x.count(0) == 1440 && once(3)) {
            addBackIntoTheDay();
            return;
        }
        int left = any(100);
        int[] shares = SHARES[kind.ordinal()];
        for (int one = 0; one < shares.length; one++) {
            left -= shares[one];
            if (left < 0) {
                choose(one, x);
                return;
            }
        }
        ask(x);
    }

    private void choose(int one, Face x) {
        switch (one) {
            case SET: set(x); break;
            case CUTOFF: cutoff(x); break;
            case MAIL: mail(x); break;
            case PASS: pass(x); break;
            case TEXT: text(x); break;
            case UNDO: undo(); break;
            case SAVE: addSave(once(12) ? pick(-1, 2) : any(2)); break;
            case RESTORE: restore(); break;
            default: whatIf(x); break;
        }
        if (kind == Kind.HISTORY && one <= TEXT && once(3)) {
            add("undo()", Face::undo);
        }
    }

    private int soon(Face x) {
        int minute = x.count(0) + any(hurry);
        return once(30) ? x.count(0) - 1 : once(40) ? pick(-1, 1439, 1440) : Math.min(minute, once(20) ? 1440 : 1439);
    }

    private int someRoute() {
        return once(40) ? pick(-1, 8) : any(pick(2, 3, 8));
    }

    private void addSet(int setting, int value) {
        add("set(" + setting + ", " + value + ")", x -> x.set(setting, value));
    }

    private void addPass(int minutes) {
        add("pass(" + minutes + ")", x -> x.pass(minutes));
    }

    private void addSave(int slot) {
        add("save(" + slot + ")", x -> x.save(slot));
    }

    private void set(Face x) {
        if (kind == Kind.OVERTIME && !once(4)) {
            int now = x.count(0);
            int setting = pick(LetterRuns.SHIFT, LetterRuns.OVER, LetterRuns.OVER, LetterRuns.STAFF);
            addSet(setting, setting == LetterRuns.SHIFT ? now + pick(0, 0, 1, 2, 9) : setting == LetterRuns.OVER ? any(2) : any(4));
            return;
        }
        int setting = any(9);
        if (once(25)) {
            addSet(pick(-1, 9), 1);
        } else if (once(6)) {
            int lowest = Sentences.LOWEST[setting];
            int highest = Sentences.HIGHEST[setting];
            addSet(setting, pick(lowest, highest, lowest - 1, highest + 1));
        } else {
            addSet(setting, pick(0, 0, 1, 2, 3, 5, 10, 20, 30, 100, 500, x.count(0)));
        }
    }

    private void cutoff(Face x) {
        int route = someRoute();
        int minute = soon(x);
        add("cutoff(" + route + ", " + minute + ")", y -> y.cutoff(route, minute));
    }

    private void mail(Face x) {
        int same = kind == Kind.CROWD ? 1 + any(5) : 1;
        int shape = once(40) ? pick(-1, 3) : any(kind == Kind.CROWD ? 2 : 3);
        for (int batch = 0; batch < same; batch++) {
            int pieces = once(40) ? pick(0, -1, 999, 1000) : 1 + any(mostPieces);
            int route = someRoute();
            int minute = soon(x);
            add("mail(" + shape + ", " + pieces + ", " + route + ", " + minute + ")", y -> y.mail(shape, pieces, route, minute));
        }
    }

    private void pass(Face x) {
        int now = x.count(0);
        if (once(40)) {
            addPass(pick(-1, 0, 1441 - now, 1440, Integer.MAX_VALUE));
        } else if (once(kind == Kind.END_OF_DAY ? 8 : 30)) {
            addPass(Math.max(1, 1440 - now));
        } else {
            addPass(1 + any(pick(1, 2, hurry)));
        }
    }

    private void undo() {
        for (int times = once(5) ? 1 + any(7) : 1; times > 0; times--) {
            add("undo()", Face::undo);
        }
    }

    private void restore() {
        int slot = once(12) ? pick(-1, 2) : pick(0, 1, 1);
        add("restore(" + slot + ")", x -> x.restore(slot));
        if (once(4)) {
            add("undo()", Face::undo);
        }
    }

    private void addBackIntoTheDay() {
        if (once(2)) {
            add("undo()", Face::undo);
        } else {
            int slot = any(2);
            add("restore(" + slot + ")", x -> x.restore(slot));
        }
    }

    // ---- what if, and what later calls show of it

    private void whatIf(Face x) {
        switch (any(4)) {
            case 0:
                add("sortedAt()", Face::sortedAt);
                goOn(x.sortedAt() - x.count(0));
                break;
            case 1:
                add("wouldMiss()", Face::wouldMiss);
                goOn(1440 - x.count(0));
                break;
            default:
                least(x);
        }
    }

    /** Lets so many minutes pass, asks whether it is as it was told, and takes them back. */
    private void goOn(int minutes) {
        if (minutes > 1) {
            addPass(minutes - 1);
            addCounts();
        }
        if (minutes > 0) {
            addPass(1);
            addCounts();
            add("sortedAt()", Face::sortedAt);
            add("undo()", Face::undo);
        }
        if (minutes > 1) {
            add("undo()", Face::undo);
        }
    }

    private void addCounts() {
        for (int what = 3; what <= 7; what++) {
            addCount(what);
        }
    }

    private void addCount(int what) {
        add("count(" + what + ")", x -> x.count(what));
    }

    private void least(Face x) {
        int setting = once(15) ? any(9) : pick(2, 6, 7, 8);
        int pieces = once(20) ? pick(-1, Integer.MAX_VALUE) : any(Math.max(1, x.wouldMiss() + pick(1, 3, 50)));
        add("least(" + setting + ", " + pieces + ")", y -> y.least(setting, pieces));
        int value = x.least(setting, pieces);
        for (int tried = value; tried >= 0 && tried >= value - 1; tried--) {
            addSet(setting, tried);
            add("wouldMiss()", Face::wouldMiss);
            add("undo()", Face::undo);
        }
    }

    // ---- texts

    private void text(Face x) {
        StringBuilder text = new StringBuilder(order(x));
        for (int orders = any(once(3) ? 9 : 4); orders > 0; orders--) {
            text.append(';').append(order(x));
        }
        if (once(8)) {
            int place = any(text.length());
            String sign = once(3) ? "" : "" + "lfpcts;>@=0123456789x".charAt(any(21));
            text.replace(place, Math.min(text.length(), place + (sign.isEmpty() ? 1 : any(2))), sign);
        }
        addPuts(text.toString());
        if (once(3)) {
            add("fault()", Face::fault);
        }
        addCount(17);
        if (once(8)) {
            add("wipe()", Face::wipe);
        } else {
            add("carryOut()", Face::carryOut);
        }
        addCount(0);
        addCount(1);
        addCount(17);
        addCount(18);
        if (once(4)) {
            add("undo()", Face::undo);
        }
        if (once(2)) {
            add("wipe()", Face::wipe);
        }
    }

    private void addPuts(String text) {
        int start = 0;
        while (start < text.length()) {
            int end = Math.min(text.length(), start + (once(3) ? 1 + any(8) : 8));
            long packed = Check.packed(text.substring(start, end));
            add("put(" + packed + ")", x -> x.put(packed));
            start = end;
        }
        if (once(12)) {
            long edge = pick(32, 33, 126, 127);
            long strange = once(3) ? seed : once(2) ? Check.packed("t1") & ~(255L << 8 * any(4)) : edge << 8 * any(3) | '1';
            add("put(" + strange + ")", x -> x.put(strange));
        }
    }

    private String order(Face x) {
        switch (any(6)) {
            case 0: return "t" + pick(1, 1, 2, 5, once(12) ? 0 : 3, once(25) ? 9999 : 1);
            case 1: return "s" + any(once(20) ? 40 : 21);
            case 2: return "c" + any(once(12) ? 10 : 8) + "=" + Math.max(0, soon(x));
            default:
                int pieces = once(20) ? pick(0, 1000) : 1 + any(mostPieces);
                return "lfp".charAt(any(3)) + "" + pieces + ">" + any(8) + "@" + Math.max(0, soon(x));
        }
    }

    // ---- questions

    private void ask(Face x) {
        int what = any(24) - 2;
        int number = once(15) ? pick(-1, 40, x.count(1)) : any(Math.max(1, x.count(1)));
        int small = any(11) - 1;
        switch (any(12)) {
            case 0:
                addCount(what);
                break;
            case 1:
                add("delayed(" + small % 6 + ")", y -> y.delayed(small % 6));
                break;
            case 2:
                add("queued(" + number % 4 + ", " + small + ")", y -> y.queued(number % 4, small));
                break;
            case 3:
            case 4:
                add("machine(" + number % 4 + ", " + small % 7 + ")", y -> y.machine(number % 4, small % 7));
                break;
            case 5:
            case 6:
                int route = someRoute();
                add("route(" + route + ", " + small % 6 + ")", y -> y.route(route, small % 6));
                break;
            default:
                int asked = once(15) ? what : 4 + any(7);
                add("batch(" + number + ", " + asked + ")", y -> y.batch(number, asked));
        }
    }
}
