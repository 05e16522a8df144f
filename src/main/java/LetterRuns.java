/** A sorting centre for mail over a day. What its calls promise stands in the document, ../shared/DOC.md. */
public final class LetterRuns {
    public static final int NO_SUCH = -1, BAD_VALUE = -2, BAD_TEXT = -3, TOO_MANY = -4, NOT_POSSIBLE = -5, NONE = -6;
    public static final int SETUP = 0, REJECT = 1, STAFF = 2, HAND = 3, SHIFT = 4, OVER = 5, SPEED0 = 6, SPEED1 = 7, SPEED2 = 8;

    private static final int SETTINGS = 9, SHAPES = 3, ROUTES = 8, SLOTS = 2;
    private static final int MOST_BATCHES = 40, MOST_PIECES = 999, MOST_CHARACTERS = 80, MOST_STATES = 6;
    private static final int MINUTES = 1440, FIRST_CUTOFF = 720;

    private static final int[] FIRST_VALUES = {3, 20, 2, 5, 480, 0, 50, 30, 10};
    private static final int[] LOWEST_VALUES = {0, 0, 0, 1, 0, 0, 1, 1, 1};
    private static final int[] HIGHEST_VALUES = {30, 500, 20, 50, 1440, 1, 100, 100, 100};

    /** What batch() can be asked for and other calls add up. */
    private static final int PIECES = 1, WITH_MACHINE = 4, WITH_HANDS = 5, SORTED = 6, GONE = 7, MISSED = 8;

    private static final int WAITED = 1, SET_UP = 2, REJECTED = 3, CAME_LATE = 4;

    private final Centre centre = new Centre();
    private final Centre trial = new Centre();
    private final Centre[] slots = new Centre[SLOTS];
    private final boolean[] saved = new boolean[SLOTS];
    private final History history = new History();
    private final Pad pad = new Pad();

    public LetterRuns() {
        for (int slot = 0; slot < SLOTS; slot++) {
            slots[slot] = new Centre();
        }
    }

    // ---- changes

    public int set(int setting, int value) {
        history.note(centre);
        return recorded(centre.changeSetting(setting, value));
    }

    public int cutoff(int route, int minute) {
        history.note(centre);
        return recorded(centre.changeCutoff(route, minute));
    }

    public int mail(int shape, int pieces, int route, int minute) {
        history.note(centre);
        return recorded(centre.tell(shape, pieces, route, minute));
    }

    public int pass(int minutes) {
        history.note(centre);
        return recorded(centre.letPass(minutes));
    }

    /** Keeps the state that was noted before a change, if the change returned no error. */
    private int recorded(int answer) {
        if (answer >= 0) {
            history.keep();
        }
        return answer;
    }

    // ---- what there is

    public int batch(int batch, int what) {
        Batch asked = centre.batchAt(batch);
        return asked == null ? NO_SUCH : asked.about(what);
    }

    public int machine(int machine, int what) {
        Machine asked = centre.machineAt(machine);
        return asked == null ? NO_SUCH : asked.about(what);
    }

    public int route(int route, int what) {
        if (route < 0 || route >= ROUTES) {
            return NO_SUCH;
        }
        switch (what) {
            case 0: return centre.cutoffOf(route);
            case 1: return centre.sum(route, GONE);
            case 2: return centre.sum(route, MISSED);
            case 3: return centre.sum(route, SORTED);
            case 4: return centre.sum(route, PIECES);
            default: return BAD_VALUE;
        }
    }

    public int count(int what) {
        if (what >= 8 && what < 8 + SETTINGS) {
            return centre.settings[what - 8];
        }
        switch (what) {
            case 0: return centre.now;
            case 1: return centre.batchCount;
            case 2: return centre.sum(NONE, PIECES);
            case 3: return centre.rejects;
            case 4: return centre.sum(NONE, WITH_HANDS);
            case 5: return centre.costs;
            case 6: return centre.sum(NONE, GONE);
            case 7: return centre.sum(NONE, MISSED);
            case 17: return pad.length;
            case 18: return history.size;
            default: return BAD_VALUE;
        }
    }

    public long delayed(int delay) {
        return delay < 0 || delay > CAME_LATE ? BAD_VALUE : centre.withDelay(delay);
    }

    public int queued(int machine, int place) {
        Machine asked = centre.machineAt(machine);
        if (asked == null || place < 0 || place >= asked.queue.size) {
            return NO_SUCH;
        }
        return asked.queue.at(place);
    }

    // ---- what if

    public int sortedAt() {
        trial.takeOver(centre);
        return trial.minuteAllSorted();
    }

    public int wouldMiss() {
        trial.takeOver(centre);
        return trial.missedInTheEnd(MOST_BATCHES * MOST_PIECES);
    }

    /** Tries one value after the other: another order of the rejects may let a greater value miss more. */
    public int least(int setting, int pieces) {
        boolean known = setting == STAFF || setting >= SPEED0 && setting <= SPEED2;
        if (!known || pieces < 0) {
            return BAD_VALUE;
        }
        for (int value = LOWEST_VALUES[setting]; value <= HIGHEST_VALUES[setting]; value++) {
            trial.takeOver(centre);
            trial.settings[setting] = value;
            if (trial.missedInTheEnd(pieces) <= pieces) {
                return value;
            }
        }
        return NONE;
    }

    // ---- texts

    public int put(long characters) {
        return pad.append(characters);
    }

    public int wipe() {
        return pad.empty();
    }

    public int fault() {
        return pad.findFault();
    }

    public int carryOut() {
        if (pad.findFault() != NONE) {
            return BAD_TEXT;
        }
        history.note(centre);
        history.keep();
        int done = 0;
        pad.place = 0;
        while (done < MOST_CHARACTERS) {
            if (!pad.readOrder() || obeyOrder() < 0) {
                break;
            }
            done++;
            if (!pad.read(';')) {
                break;
            }
        }
        pad.empty();
        return done;
    }

    /** Carries out the order that was read last; the answer is that of the call that it stands for. */
    private int obeyOrder() {
        switch (pad.order) {
            case 'l': return centre.tell(0, pad.pieces, pad.route, pad.number);
            case 'f': return centre.tell(1, pad.pieces, pad.route, pad.number);
            case 'p': return centre.tell(2, pad.pieces, pad.route, pad.number);
            case 'c': return centre.changeCutoff(pad.route, pad.number);
            case 't': return centre.letPass(pad.number);
            default: return centre.changeSetting(STAFF, pad.number);
        }
    }

    // ---- undo, saving

    public int undo() {
        if (history.size == 0) {
            return NOT_POSSIBLE;
        }
        centre.takeOver(history.takeLatest());
        return history.size;
    }

    public int save(int slot) {
        if (slot < 0 || slot >= SLOTS) {
            return BAD_VALUE;
        }
        slots[slot].takeOver(centre);
        saved[slot] = true;
        return centre.batchCount;
    }

    public int restore(int slot) {
        if (slot < 0 || slot >= SLOTS) {
            return BAD_VALUE;
        }
        if (!saved[slot]) {
            return NOT_POSSIBLE;
        }
        history.note(centre);
        history.keep();
        centre.takeOver(slots[slot]);
        return centre.batchCount;
    }

    /** All that undo() and restore() bring back: the mail, the machines, the hands, the settings and the minute. */
    private static final class Centre {
        final int[] settings = new int[SETTINGS];
        final int[] cutoffs = new int[ROUTES];
        final Batch[] batches = new Batch[MOST_BATCHES];
        final Machine[] machines = new Machine[SHAPES];
        final Row hands = new Row();
        int batchCount;
        int now;
        int machineSorted;
        int rejects;
        int costs;
        /** No batch comes and no cutoff is before this minute; it may be too early, but never too late. */
        int nextEvent;

        Centre() {
            for (int setting = 0; setting < SETTINGS; setting++) {
                settings[setting] = FIRST_VALUES[setting];
            }
            for (int route = 0; route < ROUTES; route++) {
                cutoffs[route] = FIRST_CUTOFF;
            }
            for (int number = 0; number < MOST_BATCHES; number++) {
                batches[number] = new Batch();
            }
            for (int shape = 0; shape < SHAPES; shape++) {
                machines[shape] = new Machine();
            }
        }

        void takeOver(Centre other) {
            System.arraycopy(other.settings, 0, settings, 0, SETTINGS);
            System.arraycopy(other.cutoffs, 0, cutoffs, 0, ROUTES);
            for (int number = 0; number < other.batchCount; number++) {
                batches[number].takeOver(other.batches[number]);
            }
            for (int shape = 0; shape < SHAPES; shape++) {
                machines[shape].takeOver(other.machines[shape]);
            }
            hands.takeOver(other.hands);
            batchCount = other.batchCount;
            now = other.now;
            machineSorted = other.machineSorted;
            rejects = other.rejects;
            costs = other.costs;
            nextEvent = other.nextEvent;
        }

        // -- changes; each looks at its arguments first and changes nothing if one of them is wrong

        int changeSetting(int setting, int value) {
            if (setting < 0 || setting >= SETTINGS) {
                return BAD_VALUE;
            }
            if (value < LOWEST_VALUES[setting] || value > HIGHEST_VALUES[setting]) {
                return BAD_VALUE;
            }
            int previous = settings[setting];
            settings[setting] = value;
            return previous;
        }

        int changeCutoff(int route, int minute) {
            if (route < 0 || route >= ROUTES) {
                return NO_SUCH;
            }
            if (!isToCome(minute)) {
                return BAD_VALUE;
            }
            int previous = cutoffs[route];
            cutoffs[route] = minute;
            nextEvent = now;
            return previous;
        }

        int tell(int shape, int pieces, int route, int minute) {
            if (shape < 0 || shape >= SHAPES || route < 0 || route >= ROUTES) {
                return NO_SUCH;
            }
            if (pieces < 1 || pieces > MOST_PIECES || !isToCome(minute)) {
                return BAD_VALUE;
            }
            if (batchCount >= MOST_BATCHES) {
                return TOO_MANY;
            }
            batches[batchCount].begin(shape, pieces, route, minute);
            nextEvent = now;
            return batchCount++;
        }

        int letPass(int minutes) {
            if (minutes < 1) {
                return BAD_VALUE;
            }
            if (minutes > MINUTES - now) {
                return NOT_POSSIBLE;
            }
            int end = now + minutes;
            for (int passed = 0; passed < minutes && now < end; passed++) {
                if (now < nextEvent && isIdle()) {
                    skipTo(Math.min(nextEvent, end));
                } else {
                    passMinute();
                }
            }
            return now;
        }

        private boolean isToCome(int minute) {
            return minute >= now && minute < MINUTES;
        }

        // -- what there is

        Batch batchAt(int number) {
            return number >= 0 && number < batchCount ? batches[number] : null;
        }

        Machine machineAt(int shape) {
            return shape >= 0 && shape < SHAPES ? machines[shape] : null;
        }

        int cutoffOf(int route) {
            return route >= 0 && route < ROUTES ? cutoffs[route] : MINUTES;
        }

        /** Adds up what the batches of a route tell, or all batches if the route is NONE. */
        int sum(int route, int what) {
            int sum = 0;
            for (int number = 0; number < batchCount; number++) {
                Batch batch = batches[number];
                if (route == NONE || batch.route == route) {
                    sum += batch.about(what);
                }
            }
            return sum;
        }

        long withDelay(int delay) {
            long set = 0;
            for (int number = 0; number < batchCount; number++) {
                if (batches[number].delay == delay) {
                    set |= 1L << number;
                }
            }
            return set;
        }

        private boolean allSorted() {
            for (int number = 0; number < batchCount; number++) {
                if (!batches[number].isSorted()) {
                    return false;
                }
            }
            return true;
        }

        // -- days to their end

        int minuteAllSorted() {
            for (int passed = 0; passed < MINUTES && now < MINUTES && !allSorted(); passed++) {
                passMinute();
            }
            return allSorted() ? now : NONE;
        }

        /** Tells how many pieces miss a cutoff today; if it is above the limit, perhaps too few of them. */
        int missedInTheEnd(int limit) {
            int missed = sum(NONE, MISSED);
            for (int events = 0; events < MINUTES && nextEvent < MINUTES && missed <= limit; events++) {
                letPass(nextEvent + 1 - now);
                missed = sum(NONE, MISSED);
            }
            return missed;
        }

        // -- minutes

        private boolean isIdle() {
            for (int shape = 0; shape < SHAPES; shape++) {
                if (machines[shape].batch != NONE || machines[shape].queue.size > 0) {
                    return false;
                }
            }
            return hands.size == 0;
        }

        /** Lets minutes pass in which there is nothing to do: the staff costs until the shift ends, that's all. */
        private void skipTo(int minute) {
            int inShift = Math.min(minute, settings[SHIFT]) - now;
            costs += Math.max(inShift, 0) * settings[STAFF];
            now = minute;
        }

        private void passMinute() {
            if (now >= nextEvent) {
                letCome();
                letGo();
                nextEvent = findNextEvent();
            }
            for (int shape = 0; shape < SHAPES; shape++) {
                takeNext(machines[shape]);
                delayQueue(machines[shape].queue);
                runMachine(machines[shape], settings[SPEED0 + shape]);
            }
            boolean inShift = now < settings[SHIFT];
            boolean overtime = !inShift && settings[OVER] == 1;
            if (overtime && hands.size > 0) {
                costs += 2 * settings[STAFF];
            }
            if (inShift) {
                costs += settings[STAFF];
            }
            if (inShift || overtime) {
                sortByHand();
            }
            now++;
        }

        private void letCome() {
            for (int number = 0; number < batchCount; number++) {
                Batch batch = batches[number];
                Machine machine = machineAt(batch.shape);
                if (batch.minute == now && machine != null) {
                    machine.queue.append(number);
                    batch.come(cutoffOf(batch.route));
                }
            }
        }

        private void letGo() {
            for (int number = 0; number < batchCount; number++) {
                Batch batch = batches[number];
                if (batch.minute <= now && cutoffOf(batch.route) == now) {
                    batch.letGo();
                }
            }
        }

        private int findNextEvent() {
            int next = MINUTES;
            for (int number = 0; number < batchCount; number++) {
                if (batches[number].minute > now) {
                    next = Math.min(next, batches[number].minute);
                }
            }
            for (int route = 0; route < ROUTES; route++) {
                if (cutoffs[route] > now) {
                    next = Math.min(next, cutoffs[route]);
                }
            }
            return next;
        }

        private void takeNext(Machine machine) {
            int number = machine.queue.at(0);
            Batch batch = batchAt(number);
            if (machine.batch == NONE && batch != null) {
                machine.take(number, batch.route, settings[SETUP]);
                machine.queue.removeFirst();
            }
        }

        /** Only batches that came in this minute can be without a delay here, and they are the last ones. */
        private void delayQueue(Row queue) {
            for (int place = queue.size - 1; place >= 0; place--) {
                Batch batch = batchAt(queue.at(place));
                if (batch == null || batch.minute != now) {
                    break;
                }
                batch.delayBy(WAITED);
            }
        }

        private void runMachine(Machine machine, int speed) {
            Batch batch = batchAt(machine.batch);
            if (batch == null) {
                return;
            }
            costs++;
            if (machine.setupLeft > 0) {
                machine.setupLeft--;
                batch.delayBy(SET_UP);
            } else {
                sortBatch(machine, batch, Math.min(speed, batch.withMachine));
            }
        }

        private void sortBatch(Machine machine, Batch batch, int pieces) {
            int due = rejectsOf(machineSorted + pieces) - rejectsOf(machineSorted);
            int rejected = Math.min(due, pieces);
            machine.sorted += pieces;
            machineSorted += pieces;
            rejects += rejected;
            if (rejected > 0 && batch.withHands == 0) {
                hands.append(machine.batch);
            }
            batch.leaveMachine(pieces, rejected, now);
            if (batch.withMachine == 0) {
                machine.batch = NONE;
            }
        }

        private int rejectsOf(int pieces) {
            return pieces * settings[REJECT] / 1000;
        }

        private void sortByHand() {
            int left = settings[STAFF] * settings[HAND];
            for (int done = 0; done < MOST_BATCHES && left > 0; done++) {
                Batch batch = batchAt(hands.at(0));
                if (batch == null) {
                    break;
                }
                int pieces = Math.min(left, batch.withHands);
                left -= pieces;
                batch.leaveHands(pieces, now);
                if (batch.withHands == 0) {
                    hands.removeFirst();
                }
            }
        }
    }

    /** A batch, its pieces by where they are, and what happened to it. */
    private static final class Batch {
        int shape;
        int pieces;
        int route;
        int minute;
        int withMachine;
        int withHands;
        int sorted;
        int gone;
        int missed;
        int delay;
        int sortedAt;

        void begin(int itsShape, int itsPieces, int itsRoute, int itsMinute) {
            shape = itsShape;
            pieces = itsPieces;
            route = itsRoute;
            minute = itsMinute;
            withMachine = itsPieces;
            withHands = 0;
            sorted = 0;
            gone = 0;
            missed = 0;
            delay = 0;
            sortedAt = NONE;
        }

        void takeOver(Batch other) {
            shape = other.shape;
            pieces = other.pieces;
            route = other.route;
            minute = other.minute;
            withMachine = other.withMachine;
            withHands = other.withHands;
            sorted = other.sorted;
            gone = other.gone;
            missed = other.missed;
            delay = other.delay;
            sortedAt = other.sortedAt;
        }

        int about(int what) {
            switch (what) {
                case 0: return shape;
                case PIECES: return pieces;
                case 2: return route;
                case 3: return minute;
                case WITH_MACHINE: return withMachine;
                case WITH_HANDS: return withHands;
                case SORTED: return sorted;
                case GONE: return gone;
                case MISSED: return missed;
                case 9: return delay;
                case 10: return sortedAt;
                default: return BAD_VALUE;
            }
        }

        boolean isSorted() {
            return withMachine == 0 && withHands == 0;
        }

        void delayBy(int reason) {
            if (delay == 0) {
                delay = reason;
            }
        }

        void come(int cutoff) {
            if (minute > cutoff) {
                missed = pieces;
            }
            if (minute >= cutoff) {
                delayBy(CAME_LATE);
            }
        }

        /** Pieces that missed an earlier cutoff stay so, and those that miss this one are among them, or they are none. */
        void letGo() {
            gone += sorted;
            sorted = 0;
            missed = Math.max(missed, pieces - gone);
        }

        void leaveMachine(int some, int rejected, int now) {
            withMachine -= some;
            withHands += rejected;
            sorted += some - rejected;
            if (rejected > 0 && delay == 0) {
                delay = REJECTED;
            }
            if (withMachine == 0 && withHands == 0) {
                sortedAt = now;
            }
        }

        void leaveHands(int some, int now) {
            withHands -= some;
            sorted += some;
            if (withMachine == 0 && withHands == 0) {
                sortedAt = now;
            }
        }
    }

    private static final class Machine {
        final Row queue = new Row();
        int batch = NONE;
        int setupLeft;
        int lastRoute = NONE;
        int sorted;
        int setups;

        void takeOver(Machine other) {
            queue.takeOver(other.queue);
            batch = other.batch;
            setupLeft = other.setupLeft;
            lastRoute = other.lastRoute;
            sorted = other.sorted;
            setups = other.setups;
        }

        int about(int what) {
            switch (what) {
                case 0: return batch;
                case 1: return queue.size;
                case 2: return setupLeft;
                case 3: return lastRoute;
                case 4: return sorted;
                case 5: return setups;
                default: return BAD_VALUE;
            }
        }

        void take(int number, int route, int setup) {
            batch = number;
            if (route != lastRoute && setup > 0) {
                setupLeft = setup;
                setups++;
            }
            lastRoute = route;
        }
    }

    /** Numbers of batches, one behind the other; a batch stands in it once at most. */
    private static final class Row {
        final int[] numbers = new int[MOST_BATCHES];
        int size;

        void takeOver(Row other) {
            System.arraycopy(other.numbers, 0, numbers, 0, MOST_BATCHES);
            size = other.size;
        }

        int at(int place) {
            return place >= 0 && place < size ? numbers[place] : NONE;
        }

        void append(int number) {
            if (size < MOST_BATCHES) {
                numbers[size] = number;
                size++;
            }
        }

        void removeFirst() {
            if (size > 0) {
                size--;
                System.arraycopy(numbers, 1, numbers, 0, size);
            }
        }
    }

    /** The latest states before changes, in a ring with one place more, in which the next one is noted. */
    private static final class History {
        final Centre[] states = new Centre[MOST_STATES + 1];
        int first;
        int size;

        History() {
            for (int place = 0; place <= MOST_STATES; place++) {
                states[place] = new Centre();
            }
        }

        void note(Centre centre) {
            behindLast().takeOver(centre);
        }

        void keep() {
            if (size < MOST_STATES) {
                size++;
            } else {
                first = (first + 1) % (MOST_STATES + 1);
            }
        }

        /** The latest state; it is the caller's until the next one is noted. */
        Centre takeLatest() {
            if (size > 0) {
                size--;
            }
            return behindLast();
        }

        private Centre behindLast() {
            return states[(first + size) % (MOST_STATES + 1)];
        }
    }

    /** The text of the pad, and a place up to which it has been read. */
    private static final class Pad {
        final char[] text = new char[MOST_CHARACTERS];
        int length;
        int place;
        /** What the order says that was read last. */
        char order;
        int pieces;
        int route;
        int number;

        int append(long characters) {
            int added = countCharacters(characters);
            if (added < 1) {
                return BAD_VALUE;
            }
            if (length + added > MOST_CHARACTERS) {
                return TOO_MANY;
            }
            for (int back = added - 1; back >= 0; back--) {
                text[length] = (char) (characters >>> 8 * back & 255);
                length++;
            }
            return length;
        }

        /** Tells how many characters a number gives, or 0 if it is not right. */
        private int countCharacters(long characters) {
            int count = 0;
            long rest = characters;
            while (count < 8 && rest != 0) {
                long code = rest & 255;
                if (code < 33 || code > 126) {
                    return 0;
                }
                count++;
                rest >>>= 8;
            }
            return count;
        }

        int empty() {
            int previous = length;
            length = 0;
            return previous;
        }

        int findFault() {
            place = 0;
            for (int orders = 0; orders < MOST_CHARACTERS; orders++) {
                if (!readOrder()) {
                    break;
                }
                if (place == length) {
                    return NONE;
                }
                if (!read(';')) {
                    break;
                }
            }
            return place;
        }

        /** Reads an order; if it can't, the place is that of the first character that cannot stand there. */
        boolean readOrder() {
            order = next();
            switch (order) {
                case 'l':
                case 'f':
                case 'p':
                    place++;
                    return readPieces() && read('>') && readRoute() && read('@') && readNumber();
                case 'c':
                    place++;
                    return readRoute() && read('=') && readNumber();
                case 't':
                case 's':
                    place++;
                    return readNumber();
                default:
                    return false;
            }
        }

        boolean read(char wanted) {
            if (next() != wanted) {
                return false;
            }
            place++;
            return true;
        }

        private boolean readPieces() {
            boolean done = readNumber();
            pieces = number;
            return done;
        }

        private boolean readRoute() {
            int digit = nextDigit();
            if (digit < 0 || digit >= ROUTES) {
                return false;
            }
            route = digit;
            place++;
            return true;
        }

        /** Reads up to four digits, and none behind a 0 at the start; what follows them must fit the order. */
        private boolean readNumber() {
            int start = place;
            number = 0;
            for (int digits = 0; digits < 4 && nextDigit() >= 0; digits++) {
                number = 10 * number + nextDigit();
                place++;
                if (number == 0) {
                    break;
                }
            }
            return place > start;
        }

        private int nextDigit() {
            char next = next();
            return next >= '0' && next <= '9' ? next - '0' : NONE;
        }

        /** The character at the place, or 0, which no pad holds, at the end. */
        private char next() {
            return place >= 0 && place < length ? text[place] : (char) 0;
        }
    }
}
