import java.util.ArrayDeque;
import java.util.ArrayList;
import java.util.List;

/**
 * The document once more, as plainly as it can be told: each piece is an object, each minute is passed alone, and
 * nothing is left out because it can't matter. ModelTest compares LetterRuns with it, Days asks it what there is.
 */
final class PlainCentre implements Face {
    private static final int[] LOW = {0, 0, 0, 1, 0, 0, 1, 1, 1};
    private static final int[] HIGH = {30, 500, 20, 50, 1440, 1, 100, 100, 100};

    private enum Where { MACHINE, HANDS, SORTED, GONE }

    private static final class Piece {
        Where where = Where.MACHINE;
        boolean missed;
        int sortedIn = -6;
    }

    private static final class Batch {
        int shape, route, minute, delay;
        List<Piece> pieces = new ArrayList<>();

        int count(Where where) {
            int count = 0;
            for (Piece piece : pieces) {
                if (piece.where == where) {
                    count++;
                }
            }
            return count;
        }

        int missed() {
            int count = 0;
            for (Piece piece : pieces) {
                if (piece.missed) {
                    count++;
                }
            }
            return count;
        }

        int sortedIn() {
            int last = -6;
            for (Piece piece : pieces) {
                if (piece.sortedIn == -6) {
                    return -6;
                }
                last = Math.max(last, piece.sortedIn);
            }
            return last;
        }

        void delay(int reason) {
            if (delay == 0) {
                delay = reason;
            }
        }
    }

    private static final class Machine {
        int batch = -6, setUpYet, route = -6, sorted, setUps;
        ArrayDeque<Integer> queue = new ArrayDeque<>();
    }

    private static final class Day {
        int now, costs, rejects;
        int[] settings = {3, 20, 2, 5, 480, 0, 50, 30, 10};
        int[] cutoffs = {720, 720, 720, 720, 720, 720, 720, 720};
        List<Batch> batches = new ArrayList<>();
        Machine[] machines = {new Machine(), new Machine(), new Machine()};
        ArrayDeque<Integer> hands = new ArrayDeque<>();

        Day copy() {
            Day day = new Day();
            day.now = now;
            day.costs = costs;
            day.rejects = rejects;
            day.settings = settings.clone();
            day.cutoffs = cutoffs.clone();
            for (Batch batch : batches) {
                Batch other = new Batch();
                other.shape = batch.shape;
                other.route = batch.route;
                other.minute = batch.minute;
                other.delay = batch.delay;
                for (Piece piece : batch.pieces) {
                    Piece same = new Piece();
                    same.where = piece.where;
                    same.missed = piece.missed;
                    same.sortedIn = piece.sortedIn;
                    other.pieces.add(same);
                }
                day.batches.add(other);
            }
            for (int shape = 0; shape < 3; shape++) {
                Machine machine = machines[shape];
                Machine other = day.machines[shape];
                other.batch = machine.batch;
                other.setUpYet = machine.setUpYet;
                other.route = machine.route;
                other.sorted = machine.sorted;
                other.setUps = machine.setUps;
                other.queue = machine.queue.clone();
            }
            day.hands = hands.clone();
            return day;
        }

        void minute() {
            for (int number = 0; number < batches.size(); number++) {
                Batch batch = batches.get(number);
                if (batch.minute == now) {
                    machines[batch.shape].queue.addLast(number);
                    if (now > cutoffs[batch.route]) {
                        for (Piece piece : batch.pieces) {
                            piece.missed = true;
                        }
                    }
                    if (now >= cutoffs[batch.route]) {
                        batch.delay(4);
                    }
                }
            }
            for (int route = 0; route < 8; route++) {
                if (cutoffs[route] == now) {
                    cut(route);
                }
            }
            int busy = 0;
            for (int shape = 0; shape < 3; shape++) {
                if (run(machines[shape], settings[6 + shape])) {
                    busy++;
                }
            }
            boolean there = !hands.isEmpty();
            boolean shift = now < settings[4];
            boolean over = settings[5] == 1;
            if (shift || over) {
                for (int piece = 0; piece < settings[2] * settings[3] && !hands.isEmpty(); piece++) {
                    sortOneByHand();
                }
            }
            costs += busy;
            for (int one = 0; one < settings[2]; one++) {
                if (shift) {
                    costs += 1;
                } else if (over && there) {
                    costs += 2;
                }
            }
            now++;
        }

        private void cut(int route) {
            for (Batch batch : batches) {
                if (batch.route == route && batch.minute <= now) {
                    for (Piece piece : batch.pieces) {
                        if (piece.where == Where.SORTED) {
                            piece.where = Where.GONE;
                        }
                        if (piece.where != Where.GONE) {
                            piece.missed = true;
                        }
                    }
                }
            }
        }

        private boolean run(Machine machine, int speed) {
            if (machine.batch == -6 && !machine.queue.isEmpty()) {
                machine.batch = machine.queue.removeFirst();
                int route = batches.get(machine.batch).route;
                if (route != machine.route) {
                    machine.setUpYet = settings[0];
                    machine.setUps += settings[0] > 0 ? 1 : 0;
                }
                machine.route = route;
            }
            if (machine.batch == -6) {
                return false;
            }
            for (int waiting : machine.queue) {
                batches.get(waiting).delay(1);
            }
            Batch batch = batches.get(machine.batch);
            if (machine.setUpYet > 0) {
                batch.delay(2);
                machine.setUpYet--;
                return true;
            }
            int before = sortedByAll() * settings[1] / 1000;
            List<Piece> sorted = new ArrayList<>();
            for (Piece piece : batch.pieces) {
                if (piece.where == Where.MACHINE && sorted.size() < speed) {
                    sorted.add(piece);
                }
            }
            machine.sorted += sorted.size();
            int rejected = sortedByAll() * settings[1] / 1000 - before;
            for (int i = 0; i < sorted.size(); i++) {
                if (i < rejected) {
                    sorted.get(i).where = Where.HANDS;
                    rejects++;
                    batch.delay(3);
                    if (!hands.contains(machine.batch)) {
                        hands.addLast(machine.batch);
                    }
                } else {
                    sorted.get(i).where = Where.SORTED;
                    sorted.get(i).sortedIn = now;
                }
            }
            if (batch.count(Where.MACHINE) == 0) {
                machine.batch = -6;
            }
            return true;
        }

        private int sortedByAll() {
            return machines[0].sorted + machines[1].sorted + machines[2].sorted;
        }

        private void sortOneByHand() {
            Batch batch = batches.get(hands.peekFirst());
            for (Piece piece : batch.pieces) {
                if (piece.where == Where.HANDS) {
                    piece.where = Where.SORTED;
                    piece.sortedIn = now;
                    break;
                }
            }
            if (batch.count(Where.HANDS) == 0) {
                hands.removeFirst();
            }
        }

        boolean allSorted() {
            for (Batch batch : batches) {
                if (batch.count(Where.SORTED) + batch.count(Where.GONE) < batch.pieces.size()) {
                    return false;
                }
            }
            return true;
        }

        int total(Where where, int route) {
            int total = 0;
            for (Batch batch : batches) {
                if (route < 0 || batch.route == route) {
                    total += where == null ? batch.pieces.size() : batch.count(where);
                }
            }
            return total;
        }

        int missed(int route) {
            int total = 0;
            for (Batch batch : batches) {
                if (route < 0 || batch.route == route) {
                    total += batch.missed();
                }
            }
            return total;
        }
    }

    private Day day = new Day();
    private final ArrayDeque<Day> history = new ArrayDeque<>();
    private final Day[] slots = new Day[2];
    private String pad = "";

    private void record(Day before) {
        history.addLast(before);
        if (history.size() > 6) {
            history.removeFirst();
        }
    }

    private int change(Day before, int answer) {
        if (answer >= 0) {
            record(before);
        }
        return answer;
    }

    @Override
    public int set(int setting, int value) {
        return change(day.copy(), doSet(setting, value));
    }

    private int doSet(int setting, int value) {
        if (setting < 0 || setting > 8 || value < LOW[setting] || value > HIGH[setting]) {
            return -2;
        }
        int previous = day.settings[setting];
        day.settings[setting] = value;
        return previous;
    }

    @Override
    public int cutoff(int route, int minute) {
        return change(day.copy(), doCutoff(route, minute));
    }

    private int doCutoff(int route, int minute) {
        if (route < 0 || route > 7) {
            return -1;
        }
        if (minute < day.now || minute > 1439) {
            return -2;
        }
        int previous = day.cutoffs[route];
        day.cutoffs[route] = minute;
        return previous;
    }

    @Override
    public int mail(int shape, int pieces, int route, int minute) {
        return change(day.copy(), doMail(shape, pieces, route, minute));
    }

    private int doMail(int shape, int pieces, int route, int minute) {
        if (shape < 0 || shape > 2 || route < 0 || route > 7) {
            return -1;
        }
        if (pieces < 1 || pieces > 999 || minute < day.now || minute > 1439) {
            return -2;
        }
        if (day.batches.size() == 40) {
            return -4;
        }
        Batch batch = new Batch();
        batch.shape = shape;
        batch.route = route;
        batch.minute = minute;
        for (int piece = 0; piece < pieces; piece++) {
            batch.pieces.add(new Piece());
        }
        day.batches.add(batch);
        return day.batches.size() - 1;
    }

    @Override
    public int pass(int minutes) {
        return change(day.copy(), doPass(minutes));
    }

    private int doPass(int minutes) {
        if (minutes < 1) {
            return -2;
        }
        if ((long) day.now + minutes > 1440) {
            return -5;
        }
        for (int minute = 0; minute < minutes; minute++) {
            day.minute();
        }
        return day.now;
    }

    @Override
    public int batch(int number, int what) {
        if (number < 0 || number >= day.batches.size()) {
            return -1;
        }
        Batch batch = day.batches.get(number);
        int[] told = {batch.shape, batch.pieces.size(), batch.route, batch.minute, batch.count(Where.MACHINE),
            batch.count(Where.HANDS), batch.count(Where.SORTED), batch.count(Where.GONE), batch.missed(), batch.delay,
            batch.sortedIn()};
        return what < 0 || what > 10 ? -2 : told[what];
    }

    @Override
    public int machine(int shape, int what) {
        if (shape < 0 || shape > 2) {
            return -1;
        }
        Machine machine = day.machines[shape];
        int[] told = {machine.batch, machine.queue.size(), machine.setUpYet, machine.route, machine.sorted, machine.setUps};
        return what < 0 || what > 5 ? -2 : told[what];
    }

    @Override
    public int route(int route, int what) {
        if (route < 0 || route > 7) {
            return -1;
        }
        int[] told = {day.cutoffs[route], day.total(Where.GONE, route), day.missed(route), day.total(Where.SORTED, route),
            day.total(null, route)};
        return what < 0 || what > 4 ? -2 : told[what];
    }

    @Override
    public int count(int what) {
        int[] told = new int[19];
        told[0] = day.now;
        told[1] = day.batches.size();
        told[2] = day.total(null, -1);
        told[3] = day.rejects;
        told[4] = day.total(Where.HANDS, -1);
        told[5] = day.costs;
        told[6] = day.total(Where.GONE, -1);
        told[7] = day.missed(-1);
        System.arraycopy(day.settings, 0, told, 8, 9);
        told[17] = pad.length();
        told[18] = history.size();
        return what < 0 || what > 18 ? -2 : told[what];
    }

    @Override
    public long delayed(int delay) {
        if (delay < 0 || delay > 4) {
            return -2;
        }
        long set = 0;
        for (int number = 0; number < day.batches.size(); number++) {
            set |= day.batches.get(number).delay == delay ? 1L << number : 0;
        }
        return set;
    }

    @Override
    public int queued(int shape, int place) {
        if (shape < 0 || shape > 2 || place < 0 || place >= day.machines[shape].queue.size()) {
            return -1;
        }
        return new ArrayList<>(day.machines[shape].queue).get(place);
    }

    @Override
    public int sortedAt() {
        Day then = day.copy();
        while (!then.allSorted()) {
            if (then.now == 1440) {
                return -6;
            }
            then.minute();
        }
        return then.now;
    }

    @Override
    public int wouldMiss() {
        return missedBy(day.copy());
    }

    private static int missedBy(Day then) {
        while (then.now < 1440) {
            then.minute();
        }
        return then.missed(-1);
    }

    @Override
    public int least(int setting, int pieces) {
        if (setting != 2 && setting != 6 && setting != 7 && setting != 8 || pieces < 0) {
            return -2;
        }
        for (int value = LOW[setting]; value <= HIGH[setting]; value++) {
            Day then = day.copy();
            then.settings[setting] = value;
            if (missedBy(then) <= pieces) {
                return value;
            }
        }
        return -6;
    }

    @Override
    public int put(long characters) {
        String added = "";
        for (long rest = characters; rest != 0; rest >>>= 8) {
            int code = (int) (rest & 255);
            if (code < 33 || code > 126) {
                return -2;
            }
            added = (char) code + added;
        }
        if (added.isEmpty()) {
            return -2;
        }
        if (pad.length() + added.length() > 80) {
            return -4;
        }
        pad += added;
        return pad.length();
    }

    @Override
    public int wipe() {
        int length = pad.length();
        pad = "";
        return length;
    }

    /** The first character up to which, with it, no text can begin; a text is begun if a pattern of it can go on. */
    @Override
    public int fault() {
        for (int end = 1; end <= pad.length(); end++) {
            if (!begins(pad.substring(0, end))) {
                return end - 1;
            }
        }
        return pad.matches("(" + ORDER + ";)*" + ORDER) ? -6 : pad.length();
    }

    private static final String NUMBER = "(0|[1-9][0-9]{0,3})";
    private static final String ORDER = "([lfp]" + NUMBER + ">[0-7]@" + NUMBER + "|c[0-7]=" + NUMBER + "|[ts]" + NUMBER + ")";
    private static final String[] ENDINGS = {"", "0>0@0", ">0@0", "0@0", "@0", "0", "0=0", "=0", "t0"};

    private static boolean begins(String start) {
        for (String ending : ENDINGS) {
            if ((start + ending).matches("(" + ORDER + ";)*" + ORDER)) {
                return true;
            }
        }
        return false;
    }

    @Override
    public int carryOut() {
        if (fault() != -6) {
            return -3;
        }
        record(day.copy());
        int done = 0;
        for (String order : pad.split(";")) {
            if (obey(order) < 0) {
                break;
            }
            done++;
        }
        pad = "";
        return done;
    }

    private int obey(String order) {
        String[] parts = order.substring(1).split("[>@=]");
        int first = Integer.parseInt(parts[0]);
        switch (order.charAt(0)) {
            case 't': return doPass(first);
            case 's': return doSet(2, first);
            case 'c': return doCutoff(first, Integer.parseInt(parts[1]));
            default:
                return doMail("lfp".indexOf(order.charAt(0)), first, Integer.parseInt(parts[1]), Integer.parseInt(parts[2]));
        }
    }

    @Override
    public int undo() {
        if (history.isEmpty()) {
            return -5;
        }
        day = history.removeLast();
        return history.size();
    }

    @Override
    public int save(int slot) {
        if (slot < 0 || slot > 1) {
            return -2;
        }
        slots[slot] = day.copy();
        return day.batches.size();
    }

    @Override
    public int restore(int slot) {
        if (slot < 0 || slot > 1) {
            return -2;
        }
        if (slots[slot] == null) {
            return -5;
        }
        record(day);
        day = slots[slot].copy();
        return day.batches.size();
    }
}
