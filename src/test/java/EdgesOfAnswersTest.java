/** Sentences of the promises 6 to 11: batch, machine, route, count, delayed, queued. */
public final class EdgesOfAnswersTest extends Sentences {
    public static void main(String[] args) throws Exception {
        new EdgesOfAnswersTest().run();
    }

    /** What a row of minutes answers to one question, minute by minute. */
    private void minutes(Counted x, Call call, int... want) {
        for (int minute = 0; minute < want.length; minute++) {
            due("at the minute " + x.count(0), call.on(x), want[minute]);
            if (minute + 1 < want.length) {
                x.pass(1);
            }
        }
    }

    /** Set up in minute 1, then 20 in a minute, half of them rejects, 6 by hand; what is sorted goes in minute 4. */
    private static Counted row() {
        Counted x = plain(1, 500, 3, 2);
        x.set(SPEED1, 20);
        x.cutoff(6, 4);
        x.mail(1, 50, 6, 1);
        return x;
    }

    void whatThereIsChangesNothing() {
        sentence("Terms", "---- what there is.");
        Call[] asked = {x -> x.batch(0, 4), x -> x.machine(0, 0), x -> x.route(1, 2), x -> x.count(5), x -> x.delayed(1),
            x -> x.queued(0, 0), x -> x.fault()};
        for (Call call : asked) {
            changesNothing(Sentences::busy, "what there is", call, call.on(made(Sentences::busy)));
        }
    }

    // ---- promise 6

    void promise6AsTold() {
        sentence("Promise 6:", "0 its shape, 1 its pieces, 2 its route, 3 the minute in which it comes");
        int[][] told = {{0, 1, 0, 0}, {2, 999, 7, 1439}, {1, 500, 4, 720}};
        Counted x = new Counted();
        for (int[] row : told) {
            x.mail(row[0], row[1], row[2], row[3]);
        }
        for (int round = 0; round < 2; round++) {
            for (int batch = 0; batch < told.length; batch++) {
                for (int what = 0; what <= 3; what++) {
                    due("batch(" + batch + ", " + what + ")", x.batch(batch, what), told[batch][what]);
                }
            }
            x.pass(720);
        }
    }

    void promise6WithTheMachine() {
        sentence("Promise 6:", "4 pieces that are with the machine (or in its queue, or have not come yet)");
        minutes(row(), x -> x.batch(0, 4), 50, 50, 50, 30, 10, 0, 0);
        Counted queue = plain(0, 0, 0, 1);
        queue.mail(0, 51, 0, 0);
        queue.mail(0, 7, 0, 0);
        minutes(queue, x -> x.batch(1, 4), 7, 7, 7, 0);
    }

    void promise6WithTheHands() {
        sentence("Promise 6:", "5 with the hands");
        minutes(row(), x -> x.batch(0, 5), 0, 0, 0, 4, 8, 7, 1, 0, 0);
    }

    void promise6Sorted() {
        sentence("Promise 6:", "6 sorted and not gone");
        minutes(row(), x -> x.batch(0, 6), 0, 0, 0, 16, 32, 11, 17, 18, 18);
    }

    void promise6Gone() {
        sentence("Promise 6:", "7 gone");
        minutes(row(), x -> x.batch(0, 7), 0, 0, 0, 0, 0, 32, 32, 32);
    }

    void promise6Missed() {
        sentence("Promise 6:", "8 pieces that missed the cutoff (as told in 1 and 2; 0 before that)");
        minutes(row(), x -> x.batch(0, 8), 0, 0, 0, 0, 0, 18, 18, 18);
        Counted behind = plain(0, 0, 0, 1);
        behind.cutoff(0, 0);
        behind.mail(0, 9, 0, 2);
        minutes(behind, x -> x.batch(0, 8), 0, 0, 0, 9, 9);
        Counted in = plain(0, 0, 0, 1);
        in.cutoff(0, 2);
        in.mail(0, 9, 0, 2);
        minutes(in, x -> x.batch(0, 8), 0, 0, 0, 9, 9);
    }

    void promise6FirstDelay() {
        sentence("Promise 6:", "9 its first delay");
        minutes(row(), x -> x.batch(0, 9), 0, 0, 2, 2);
        Counted none = plain(0, 0, 0, 1);
        none.mail(0, 9, 0, 1);
        minutes(none, x -> x.batch(0, 9), 0, 0, 0);
    }

    void promise6LastPiece() {
        sentence("Promise 6:", "10 the minute in which the last of its pieces was sorted (NONE)");
        minutes(row(), x -> x.batch(0, 10), NONE, NONE, NONE, NONE, NONE, NONE, NONE, 6, 6, 6);
        Counted machine = plain(0, 0, 0, 1);
        machine.mail(0, 51, 0, 0);
        minutes(machine, x -> x.batch(0, 10), NONE, NONE, 1, 1);
        Counted first = plain(0, 0, 0, 1);
        first.mail(0, 50, 0, 0);
        minutes(first, x -> x.batch(0, 10), NONE, 0, 0);
        Counted last = plain(0, 500, 1, 1);
        last.set(SHIFT, 1440);
        last.mail(0, 2, 0, 1439);
        last.pass(1439);
        minutes(last, x -> x.batch(0, 10), NONE, 1439);
        Counted waits = plain(0, 500, 0, 1);
        waits.mail(0, 50, 0, 0);
        minutes(waits, x -> x.batch(0, 10), NONE, NONE, NONE);
        Counted empty = plain(0, 500, 2, 1);
        empty.set(SPEED0, 2);
        empty.mail(0, 4, 0, 0);
        minutes(empty, x -> x.batch(0, 10), NONE, NONE, 1);
    }

    void promise6NoSuchBatch() {
        sentence("Promise 6:", "NO_SUCH if there is no such batch");
        Counted x = new Counted();
        x.mail(0, 1, 0, 0);
        x.mail(0, 1, 0, 0);
        due("the last one", x.batch(1, 1), 1);
        due("none behind it", x.batch(2, 1), NO_SUCH);
        refused("batch(-1, 0)", c -> c.batch(-1, 0), NO_SUCH);
        refused("batch(4, 0)", c -> c.batch(4, 0), NO_SUCH);
        refused("batch(39, 0)", c -> c.batch(39, 0), NO_SUCH);
        refused("batch(40, 0)", c -> c.batch(40, 0), NO_SUCH);
        refused("batch(4, -1)", c -> c.batch(4, -1), NO_SUCH);
        for (int far : FAR_BELOW) {
            refused("batch(" + far + ", 0)", c -> c.batch(far, 0), NO_SUCH);
        }
        for (int far : FAR_ABOVE) {
            refused("batch(" + far + ", 0)", c -> c.batch(far, 0), NO_SUCH);
        }
        Counted gone = made(Sentences::busy);
        gone.restore(0);
        due("the last one of a saved state", gone.batch(3, 1), 30);
        due("none behind it", gone.batch(4, 1), NO_SUCH);
    }

    void promise6WhatOutOfRange() {
        sentence("Promise 6:", "BAD_VALUE if what is out of range.");
        refusedWhat("batch(1, ..)", 10, (x, what) -> x.batch(1, what));
        Counted x = made(Sentences::busy);
        for (int what = 0; what <= 10; what++) {
            due("what " + what + " is in range", x.batch(3, what) == BAD_VALUE ? 0 : 1, 1);
        }
    }

    private interface What {
        long of(Counted x, int what);
    }

    /** A question whose "what" is 0 to the last one, asked of a busy centre. */
    private void refusedWhat(String call, int last, What question) {
        refused(Sentences::busy, call + " what -1", x -> question.of(x, -1), BAD_VALUE);
        refused(Sentences::busy, call + " what " + (last + 1), x -> question.of(x, last + 1), BAD_VALUE);
        for (int far : FAR_BELOW) {
            refused(Sentences::busy, call + " what " + far, x -> question.of(x, far), BAD_VALUE);
        }
        for (int far : FAR_ABOVE) {
            refused(Sentences::busy, call + " what " + far, x -> question.of(x, far), BAD_VALUE);
        }
    }

    // ---- promise 7

    /** Machine 1: set up twice for two minutes, 40 flats for route 3 and 20 for route 0. */
    private static Counted flats() {
        Counted x = plain(2, 500, 0, 1);
        x.mail(1, 40, 3, 1);
        x.mail(1, 20, 0, 1);
        return x;
    }

    void promise7AsTheShapes() {
        sentence("Promise 7:", "- `machine`: 0 to 2, as the shapes");
        for (int shape = 0; shape <= 2; shape++) {
            Counted x = new Counted();
            x.mail(shape, 1, 0, 0);
            x.pass(1);
            for (int machine = 0; machine <= 2; machine++) {
                due("machine " + machine + ", shape " + shape, x.machine(machine, 0), machine == shape ? 0 : NONE);
            }
        }
    }

    void promise7Batch() {
        sentence("Promise 7:", "0 the batch that it has (NONE)");
        minutes(flats(), x -> x.machine(1, 0), NONE, NONE, 0, 0, 0, NONE, 1, 1, NONE, NONE);
    }

    void promise7Queue() {
        sentence("Promise 7:", "1 batches in its queue");
        minutes(flats(), x -> x.machine(1, 1), 0, 0, 1, 1, 1, 1, 0, 0, 0);
    }

    void promise7SetUpYet() {
        sentence("Promise 7:", "2 the minutes that it has to be set up yet");
        minutes(flats(), x -> x.machine(1, 2), 0, 0, 1, 0, 0, 0, 1, 0, 0);
    }

    void promise7LastRoute() {
        sentence("Promise 7:", "3 the route that it had last (NONE)");
        minutes(flats(), x -> x.machine(1, 3), NONE, NONE, 3, 3, 3, 3, 0, 0, 0, 0);
        due("another machine", flats().machine(0, 3), NONE);
    }

    void promise7Sorted() {
        sentence("Promise 7:", "4 the pieces that it sorted so far (rejected ones, too)");
        minutes(flats(), x -> x.machine(1, 4), 0, 0, 0, 0, 30, 40, 40, 40, 60, 60);
        Counted hands = plain(0, 500, 20, 50);
        hands.mail(1, 40, 3, 0);
        minutes(hands, x -> x.machine(1, 4), 0, 30, 40, 40);
    }

    void promise7SetUps() {
        sentence("Promise 7:", "5 how often it was set up so far (setting up 0 minutes does not count)");
        minutes(flats(), x -> x.machine(1, 5), 0, 0, 1, 1, 1, 1, 2, 2, 2);
        int[][] counts = {{0, 0}, {1, 3}, {30, 3}};
        for (int[] row : counts) {
            Counted x = plain(row[0], 0, 0, 1);
            for (int batch = 0; batch < 6; batch++) {
                x.mail(2, 1, batch / 2, 0);
            }
            x.pass(200);
            due("SETUP " + row[0], x.machine(2, 5), row[1]);
            due("all were sorted", x.machine(2, 4), 6);
        }
    }

    void promise7NoSuchMachine() {
        sentence("Promise 7:", "NO_SUCH if there is no such machine");
        refused("machine(-1, 0)", x -> x.machine(-1, 0), NO_SUCH);
        refused("machine(3, 0)", x -> x.machine(3, 0), NO_SUCH);
        refused("machine(3, 6)", x -> x.machine(3, 6), NO_SUCH);
        for (int far : FAR_BELOW) {
            refused("machine(" + far + ", 0)", x -> x.machine(far, 0), NO_SUCH);
        }
        for (int far : FAR_ABOVE) {
            refused("machine(" + far + ", 0)", x -> x.machine(far, 0), NO_SUCH);
        }
        due("the last one", new Counted().machine(2, 1), 0);
    }

    void promise7WhatOutOfRange() {
        sentence("Promise 7:", "BAD_VALUE if what is out of range.");
        refusedWhat("machine(0, ..)", 5, (x, what) -> x.machine(0, what));
        refusedWhat("machine(2, ..)", 5, (x, what) -> x.machine(2, what));
        due("the last one", new Counted().machine(2, 5), 0);
    }

    // ---- promise 8

    /** Route 5 with flats and parcels, cutoff 3; other routes with as many letters. */
    private static Counted routes() {
        Counted x = plain(0, 0, 0, 1);
        x.cutoff(5, 3);
        x.mail(1, 100, 5, 0);
        x.mail(2, 20, 5, 2);
        x.mail(0, 500, 4, 0);
        x.mail(2, 3, 5, 4);
        return x;
    }

    void promise8Cutoff() {
        sentence("Promise 8:", "0 its cutoff");
        minutes(routes(), x -> x.route(5, 0), 3, 3, 3, 3, 3);
        minutes(routes(), x -> x.route(4, 0), 720, 720);
    }

    void promise8Gone() {
        sentence("Promise 8:", "1 pieces that are gone");
        minutes(routes(), x -> x.route(5, 1), 0, 0, 0, 0, 100, 100, 100);
        minutes(routes(), x -> x.route(4, 1), 0, 0, 0, 0, 0, 0, 0);
    }

    void promise8Missed() {
        sentence("Promise 8:", "2 pieces that missed it");
        minutes(routes(), x -> x.route(5, 2), 0, 0, 0, 0, 20, 23, 23);
        minutes(routes(), x -> x.route(4, 2), 0, 0, 0, 0, 0, 0, 0);
    }

    void promise8Sorted() {
        sentence("Promise 8:", "3 sorted pieces that are not gone");
        minutes(routes(), x -> x.route(5, 3), 0, 30, 60, 100, 20, 23, 23);
        minutes(routes(), x -> x.route(4, 3), 0, 50, 100, 150, 200);
    }

    void promise8AllPieces() {
        sentence("Promise 8:", "4 pieces of all its batches");
        minutes(routes(), x -> x.route(5, 4), 123, 123, 123, 123, 123, 123);
        minutes(routes(), x -> x.route(4, 4), 500, 500);
        minutes(routes(), x -> x.route(3, 4), 0, 0);
    }

    void promise8NoSuchRoute() {
        sentence("Promise 8:", "NO_SUCH if there is no such route");
        refused("route(-1, 0)", x -> x.route(-1, 0), NO_SUCH);
        refused("route(8, 0)", x -> x.route(8, 0), NO_SUCH);
        refused("route(8, 5)", x -> x.route(8, 5), NO_SUCH);
        refused("route(NONE, 4)", x -> x.route(NONE, 4), NO_SUCH);
        for (int far : FAR_BELOW) {
            refused("route(" + far + ", 4)", x -> x.route(far, 4), NO_SUCH);
        }
        for (int far : FAR_ABOVE) {
            refused("route(" + far + ", 4)", x -> x.route(far, 4), NO_SUCH);
        }
        due("the last one", new Counted().route(7, 0), 720);
    }

    void promise8WhatOutOfRange() {
        sentence("Promise 8:", "BAD_VALUE if what is out of range.");
        refusedWhat("route(0, ..)", 4, (x, what) -> x.route(0, what));
        refusedWhat("route(7, ..)", 4, (x, what) -> x.route(7, what));
        due("the last one", routes().route(5, 4), 123);
    }

    // ---- promise 9

    void promise9NowBatchesPieces() {
        sentence("Promise 9:", "0 the minute of now, 1 batches, 2 pieces of all batches");
        minutes(routes(), x -> x.count(0), 0, 1, 2, 3);
        minutes(routes(), x -> x.count(1), 4, 4, 4);
        minutes(routes(), x -> x.count(2), 623, 623, 623);
        Counted x = new Counted();
        for (int batch = 0; batch < 40; batch++) {
            due("batches", x.count(1), batch);
            due("pieces", x.count(2), 999 * batch);
            x.mail(0, 999, 0, 1439);
        }
        due("40 batches", x.count(1), 40);
        due("39960 pieces", x.count(2), 39960);
    }

    void promise9RejectsAndHands() {
        sentence("Promise 9:", "3 rejects so far, 4 pieces with the hands");
        minutes(row(), x -> x.count(3), 0, 0, 0, 10, 20, 25, 25, 25);
        minutes(row(), x -> x.count(4), 0, 0, 0, 4, 8, 7, 1, 0);
        Counted all = plain(0, 500, 0, 1);
        for (int batch = 0; batch < 30; batch++) {
            all.mail(0, 100, 0, batch % 7);
        }
        all.pass(60);
        due("of all batches", all.count(4), 1500);
    }

    void promise9Costs() {
        sentence("Promise 9:", "5 the costs so far");
        minutes(row(), x -> x.count(5), 0, 3, 7, 11, 15, 19, 22, 25);
    }

    void promise9GoneAndMissed() {
        sentence("Promise 9:", "6 pieces that are gone, 7 pieces that missed a cutoff");
        minutes(routes(), x -> x.count(6), 0, 0, 0, 0, 100, 100, 100);
        minutes(routes(), x -> x.count(7), 0, 0, 0, 0, 20, 23, 23);
        Counted two = plain(0, 0, 0, 1);
        two.cutoff(0, 1);
        two.cutoff(7, 2);
        two.mail(0, 60, 0, 0);
        two.mail(1, 90, 7, 0);
        minutes(two, x -> x.count(6), 0, 0, 50, 110, 110);
        due("of both routes", two.count(7), 40);
    }

    void promise9Settings() {
        sentence("Promise 9:", "8 to 16 the settings");
        Counted x = new Counted();
        for (int setting = 0; setting <= 8; setting++) {
            due("at first", x.count(8 + setting), FIRST[setting]);
            x.set(setting, HIGHEST[setting]);
            due("set", x.count(8 + setting), HIGHEST[setting]);
        }
    }

    void promise9Pad() {
        sentence("Promise 9:", "17 the length of the pad");
        Counted x = new Counted();
        for (int length = 0; length <= 80; length++) {
            due("length", x.count(17), length);
            x.put('t');
        }
        due("no more", x.count(17), 80);
        x.wipe();
        due("wiped", x.count(17), 0);
    }

    void promise9Changes() {
        sentence("Promise 9:", "18 how many changes can be undone");
        Counted x = new Counted();
        for (int changes = 0; changes <= 8; changes++) {
            due("changes", x.count(18), Math.min(changes, 6));
            x.set(OVER, 1);
        }
        for (int left = 5; left >= 0; left--) {
            x.undo();
            due("left", x.count(18), left);
        }
    }

    void promise9WhatOutOfRange() {
        sentence("Promise 9:", "BAD_VALUE if what is out of range.");
        refusedWhat("count", 18, (x, what) -> x.count(what));
        Counted x = new Counted();
        for (int what = 0; what <= 18; what++) {
            due("what " + what + " is in range", x.count(what) >= 0 ? 1 : 0, 1);
        }
    }

    // ---- promise 10

    void promise10Set() {
        sentence("Promise 10:", "Returns the batches with a first delay.");
        Counted x = plain(1, 500, 0, 1);
        x.cutoff(7, 0);
        x.mail(0, 50, 0, 0);
        x.mail(0, 50, 0, 0);
        x.mail(1, 50, 7, 0);
        x.mail(2, 10, 0, 900);
        x.pass(1);
        int[] sets = {8, 2, 1, 0, 4};
        for (int delay = 0; delay < sets.length; delay++) {
            due("delayed(" + delay + ")", x.delayed(delay), sets[delay]);
        }
        Counted rejected = plain(0, 500, 0, 1);
        rejected.mail(2, 10, 0, 0);
        rejected.mail(1, 1, 0, 5);
        rejected.pass(1);
        due("rejected", rejected.delayed(3), 1);
        due("none so far", rejected.delayed(0), 2);
        rejected.undo();
        due("undone", rejected.delayed(3), 0);
        due("undone", rejected.delayed(0), 3);
    }

    void promise10Delays() {
        sentence("Promise 10:", "- `delay`: 0 to 4");
        for (int delay = 0; delay <= 4; delay++) {
            Counted x = plain(delay == 2 ? 1 : 0, delay == 3 ? 500 : 0, 0, 1);
            x.cutoff(7, 0);
            x.mail(0, 999, 0, 0);
            x.pass(5);
            x.mail(delay == 1 ? 0 : 1, 10, delay == 4 ? 7 : 0, 5);
            x.pass(1);
            for (int other = 0; other <= 4; other++) {
                due("batch 1, for delay " + delay + ", in delayed(" + other + ")", x.delayed(other) >> 1, other == delay ? 1 : 0);
            }
        }
    }

    void promise10DelayOutOfRange() {
        sentence("Promise 10:", "Returns the set; -2 if delay is out of range.");
        refusedWhat("delayed", 4, (x, what) -> x.delayed(what));
        Counted x = new Counted();
        for (int delay = 0; delay <= 4; delay++) {
            due("no batches", x.delayed(delay), 0);
        }
    }

    // ---- promise 11

    void promise11Queue() {
        sentence("Promise 11:", "Returns the batch in a place of a machine's queue.");
        for (int machine = 0; machine < 3; machine++) {
            Counted x = plain(30, 0, 0, 1);
            x.mail(machine, 5, 0, 1);
            x.mail(machine, 5, 0, 0);
            x.mail((machine + 1) % 3, 5, 0, 0);
            x.mail(machine, 5, 0, 2);
            due("none has come", x.queued(machine, 0), NO_SUCH);
            x.pass(1);
            due("taken at once", x.queued(machine, 0), NO_SUCH);
            x.pass(1);
            due("the first one", x.queued(machine, 0), 0);
            due("no second one", x.queued(machine, 1), NO_SUCH);
            x.pass(1);
            due("the second one", x.queued(machine, 1), 3);
            due("no third one", x.queued(machine, 2), NO_SUCH);
        }
    }

    void promise11FirstPlace() {
        sentence("Promise 11:", "- `place`: 0 for the first one");
        Counted x = plain(30, 0, 0, 1);
        for (int batch = 0; batch < 5; batch++) {
            x.mail(1, 5, 0, 4 - batch);
        }
        x.pass(5);
        for (int place = 0; place < 4; place++) {
            due("place " + place, x.queued(1, place), 3 - place);
        }
        x.pass(26);
        due("its batch is sorted, and no other one is taken yet", x.machine(1, 1), 4);
        x.pass(1);
        due("the next one is the first one", x.queued(1, 0), 2);
        due("the last one", x.queued(1, 2), 0);
        due("no more", x.queued(1, 3), NO_SUCH);
    }

    void promise11NoSuch() {
        sentence("Promise 11:", "Returns its number; NO_SUCH if there is no such machine or place.");
        refused("queued(-1, 0)", x -> x.queued(-1, 0), NO_SUCH);
        refused("queued(3, 0)", x -> x.queued(3, 0), NO_SUCH);
        refused("queued(0, -1)", x -> x.queued(0, -1), NO_SUCH);
        refused("queued(0, 1)", x -> x.queued(0, 1), NO_SUCH);
        refused("queued(0, 39)", x -> x.queued(0, 39), NO_SUCH);
        refused("queued(0, 40)", x -> x.queued(0, 40), NO_SUCH);
        refused("queued(1, 0)", x -> x.queued(1, 0), NO_SUCH);
        for (int far : FAR_BELOW) {
            refused("queued(" + far + ", 0)", x -> x.queued(far, 0), NO_SUCH);
            refused("queued(0, " + far + ")", x -> x.queued(0, far), NO_SUCH);
        }
        for (int far : FAR_ABOVE) {
            refused("queued(" + far + ", 0)", x -> x.queued(far, 0), NO_SUCH);
            refused("queued(0, " + far + ")", x -> x.queued(0, far), NO_SUCH);
        }
        due("the only one", made(Sentences::busy).queued(0, 0), 1);
    }
}
