/** Sentences of the promises 19 to 21: undo, save, restore. */
public final class EdgesOfHistoryTest extends Sentences {
    public static void main(String[] args) throws Exception {
        new EdgesOfHistoryTest().run();
    }

    /** Each kind of change, for a centre that is busy() or new and has a state in slot 0. */
    private static final Calls[] CHANGES = {
        x -> x.set(SPEED0, 7), x -> x.cutoff(1, 300), x -> x.mail(2, 9, 1, 20), x -> x.pass(3), x -> x.restore(0),
        x -> {
            x.wipe();
            type(x, "t3;s9;c4=100;l5>2@70");
            x.carryOut();
        }
    };

    /** What is there without the pad, the slots and the history: these are not undone. */
    private static String rest(Counted x) {
        x.wipe();
        for (int change = 0; change < 6; change++) {
            x.save(1);
            x.restore(1);
        }
        return numbers(x) + batches(x, 0, 6);
    }

    /** Compares what is there, now and some minutes later. */
    private void alike(String what, Calls one, Calls other) {
        int[] minutes = {0, 1, 2, 5, 9, 400};
        for (int some : minutes) {
            Counted x = made(one);
            Counted y = made(other);
            if (some > 0) {
                x.pass(some);
                y.pass(some);
            }
            same(what + ", " + some + " minutes later", rest(x), rest(y));
        }
    }

    /** Minute 3: three batches in the letters' queue, and two in the row of the hands. */
    private static void crowded(Counted x) {
        x.set(SETUP, 0);
        x.set(REJECT, 250);
        x.set(STAFF, 1);
        x.save(0);
        for (int batch = 0; batch < 4; batch++) {
            x.mail(0, 170 - 20 * batch, batch % 2, batch / 2);
        }
        x.mail(1, 60, 2, 0);
        x.cutoff(0, 2);
        x.pass(3);
    }

    // ---- promise 19

    void promise19AsItWas() {
        sentence("Promise 19:", "Undoes the latest change: everything except the pad, the slots and the history is as it was before it.");
        Calls[] centres = {Sentences::busy, EdgesOfHistoryTest::crowded, x -> x.save(0), x -> {
            x.save(0);
            x.pass(1000);
            x.restore(0);
        }};
        for (Calls before : centres) {
            for (Calls change : CHANGES) {
                alike("a change", x -> {
                    before.on(x);
                    change.on(x);
                    x.undo();
                }, before);
            }
        }
        for (int some = 1; some < 40; some++) {
            int minutes = some;
            alike(minutes + " minutes", x -> {
                crowded(x);
                x.pass(minutes);
                x.undo();
            }, EdgesOfHistoryTest::crowded);
        }
    }

    void promise19PadSlotsAndHistoryStay() {
        sentence("Promise 19:", "everything except the pad, the slots and the history");
        Counted x = new Counted();
        x.set(STAFF, 9);
        type(x, "t5;s");
        x.save(1);
        due("undo", x.undo(), 0);
        due("the pad stays", x.count(17), 4);
        due("the pad stays", x.fault(), 4);
        due("the slot stays", x.restore(1), 0);
        due("the slot stays", x.count(10), 9);
        due("undo of restore", x.undo(), 0);
        due("as it was", x.count(10), 2);
        due("the other slot is empty", x.restore(0), NOT_POSSIBLE);
        Counted text = new Counted();
        type(text, "s9");
        text.carryOut();
        text.undo();
        due("a text does not come back", text.count(17), 0);
    }

    void promise19SixStates() {
        sentence("Promise 19:", "A history of at most 6 states is kept");
        for (int changes = 0; changes <= 20; changes++) {
            Counted x = new Counted();
            for (int change = 1; change <= changes; change++) {
                x.set(SHIFT, change);
            }
            int kept = Math.min(changes, 6);
            due(changes + " changes", x.count(18), kept);
            for (int left = kept - 1; left >= 0; left--) {
                due("undo", x.undo(), left);
                int before = changes - kept + left;
                due("the state before", x.count(12), before == 0 ? 480 : before);
            }
            due("no more", x.undo(), NOT_POSSIBLE);
        }
    }

    void promise19EachChangeRecords() {
        sentence("Promise 19:", "each method that is a change, and returns no error, records the state before it (also if nothing is different then)");
        for (int change = 0; change < CHANGES.length; change++) {
            Counted x = new Counted();
            x.save(0);
            CHANGES[change].on(x);
            due("change " + change, x.count(18), 1);
        }
        Calls[] same = {x -> x.set(STAFF, 2), x -> x.cutoff(0, 720), x -> x.restore(0), x -> {
            type(x, "t0");
            x.carryOut();
        }};
        for (int change = 0; change < same.length; change++) {
            Counted x = new Counted();
            x.save(0);
            same[change].on(x);
            same[change].on(x);
            due("nothing is different, change " + change, x.count(18), 2);
        }
    }

    void promise19OthersRecordNothing() {
        sentence("Promise 19:", "each method that is a change, and returns no error");
        Calls[] others = {x -> x.set(9, 0), x -> x.cutoff(8, 9), x -> x.mail(3, 1, 0, 9), x -> x.pass(0), x -> x.pass(1441),
            x -> x.restore(0), x -> x.restore(2), x -> x.carryOut(), x -> x.put('t'), x -> x.wipe(), x -> x.fault(),
            x -> x.save(0), x -> x.save(2), x -> x.sortedAt(), x -> x.wouldMiss(), x -> x.least(STAFF, 0),
            x -> x.batch(0, 0), x -> x.machine(0, 0), x -> x.route(0, 0), x -> x.count(0), x -> x.delayed(0),
            x -> x.queued(0, 0), x -> x.undo()};
        for (int other = 0; other < others.length; other++) {
            Counted x = new Counted();
            others[other].on(x);
            due("call " + other, x.count(18), 0);
        }
    }

    void promise19TheOldestIsDropped() {
        sentence("Promise 19:", "when one more is recorded, the oldest one is dropped");
        Counted x = new Counted();
        for (int change = 1; change <= 6; change++) {
            x.set(SHIFT, change);
        }
        x.pass(1);
        due("six are kept", x.count(18), 6);
        for (int left = 5; left >= 0; left--) {
            due("undo", x.undo(), left);
        }
        due("the state before the first change is dropped", x.count(12), 1);
        for (int change = 0; change < 4; change++) {
            x.set(SETUP, change);
        }
        x.undo();
        x.undo();
        for (int change = 10; change < 16; change++) {
            x.set(SETUP, change);
        }
        due("six again", x.count(18), 6);
        for (int left = 5; left >= 0; left--) {
            due("undo again", x.undo(), left);
            due("the state before", x.count(8), left == 0 ? 1 : 9 + left);
        }
        due("the two before are dropped", x.undo(), NOT_POSSIBLE);
    }

    void promise19OrdersRecordNothing() {
        sentence("Promise 19:", "An order of a text records nothing by itself.");
        Counted x = new Counted();
        type(x, "s3;t1;c0=5;l1>1@1;s4;t1;s5;t1");
        due("eight orders", x.carryOut(), 8);
        due("one change", x.count(18), 1);
        due("undo", x.undo(), 0);
        due("no more", x.undo(), NOT_POSSIBLE);
        due("the state before all of them", x.count(10), 2);
    }

    void promise19HowManyThen() {
        sentence("Promise 19:", "Returns how many changes can be undone then; NOT_POSSIBLE if there is none.");
        refused(x -> { }, "undo of a new object", x -> x.undo(), NOT_POSSIBLE);
        refused(x -> {
            x.set(STAFF, 9);
            x.pass(9);
            x.undo();
            x.undo();
        }, "undo of all that was undone", x -> x.undo(), NOT_POSSIBLE);
        refused(x -> {
            busy(x);
            for (int undo = 0; undo < 6; undo++) {
                x.undo();
            }
        }, "a seventh undo", x -> x.undo(), NOT_POSSIBLE);
        Counted x = new Counted();
        x.set(STAFF, 9);
        due("the only one", x.undo(), 0);
        x.set(STAFF, 8);
        x.set(STAFF, 7);
        due("one of two", x.undo(), 1);
        x.set(STAFF, 6);
        due("two again", x.count(18), 2);
        due("one of two", x.undo(), 1);
        due("the state before it", x.count(10), 8);
    }

    // ---- promise 20

    void promise20Saves() {
        sentence("Promise 20:", "Saves everything except the pad, the history and the slots in a slot, and overwrites what was saved there.");
        Calls[] centres = {Sentences::busy, EdgesOfHistoryTest::crowded, x -> { }};
        for (Calls before : centres) {
            for (int one = 0; one <= 1; one++) {
                int slot = one;
                alike("everything", x -> {
                    before.on(x);
                    x.save(slot);
                    x.pass(3);
                    x.set(HAND, 9);
                    x.cutoff(7, 800);
                    x.mail(1, 5, 5, 900);
                    x.pass(200);
                    x.restore(slot);
                }, before);
            }
        }
        Counted over = new Counted();
        over.save(0);
        over.set(STAFF, 7);
        over.save(1);
        over.set(STAFF, 9);
        over.save(0);
        over.set(STAFF, 11);
        over.restore(0);
        due("what was saved last", over.count(10), 9);
        over.restore(1);
        due("the other slot", over.count(10), 7);
        Counted pad = new Counted();
        type(pad, "t5");
        pad.set(STAFF, 9);
        pad.save(0);
        due("it is no change", pad.count(18), 1);
        pad.wipe();
        pad.undo();
        pad.restore(0);
        due("not the pad", pad.count(17), 0);
        due("not the history", pad.count(18), 1);
        pad.undo();
        due("the state before restore()", pad.count(10), 2);
    }

    void promise20Slot() {
        sentence("Promise 20:", "- `slot`: 0 or 1");
        Counted x = new Counted();
        due("slot 0", x.save(0), 0);
        x.mail(0, 1, 0, 0);
        due("slot 1", x.save(1), 1);
        due("slot 0", x.restore(0), 0);
        due("slot 1", x.restore(1), 1);
    }

    void promise20HowManyBatches() {
        sentence("Promise 20:", "Returns how many batches there are");
        Counted x = new Counted();
        for (int batches = 0; batches <= 40; batches++) {
            due("slot " + batches % 2, x.save(batches % 2), batches);
            x.mail(0, 1, 0, 5);
        }
        due("40", x.save(0), 40);
        x.pass(1000);
        due("also those that are gone", x.save(0), 40);
    }

    void promise20NoSuchSlot() {
        sentence("Promise 20:", "BAD_VALUE if there is no such slot.");
        refused("save(-1)", x -> x.save(-1), BAD_VALUE);
        refused("save(2)", x -> x.save(2), BAD_VALUE);
        for (int far : FAR_BELOW) {
            refused("save(" + far + ")", x -> x.save(far), BAD_VALUE);
        }
        for (int far : FAR_ABOVE) {
            refused("save(" + far + ")", x -> x.save(far), BAD_VALUE);
        }
    }

    // ---- promise 21

    void promise21TheSlotKeepsIt() {
        sentence("Promise 21:", "Restores what was saved last in a slot, which keeps it.");
        Calls saved = x -> {
            crowded(x);
            x.save(0);
        };
        alike("again", x -> {
            saved.on(x);
            x.restore(0);
            x.pass(100);
            x.mail(0, 7, 7, 200);
            x.restore(0);
        }, saved);
        alike("behind undo()", x -> {
            saved.on(x);
            x.restore(0);
            x.pass(7);
            x.undo();
            x.undo();
            x.restore(0);
        }, saved);
        alike("what was saved last", x -> {
            busy(x);
            x.save(0);
            x.restore(0);
            x.pass(7);
            saved.on(x);
            x.pass(7);
            x.restore(0);
        }, x -> {
            busy(x);
            x.pass(7);
            saved.on(x);
        });
    }

    void promise21IsAChange() {
        sentence("Promise 21:", "This is a change.");
        Counted x = new Counted();
        x.save(1);
        x.restore(1);
        due("one", x.count(18), 1);
        x.set(STAFF, 9);
        x.mail(0, 5, 0, 3);
        x.restore(1);
        due("four", x.count(18), 4);
        due("the staff of before", x.count(10), 2);
        due("undo", x.undo(), 3);
        due("the staff", x.count(10), 9);
        due("the mail", x.batch(0, 1), 5);
        for (int change = 0; change < 9; change++) {
            x.restore(1);
        }
        due("six at most", x.count(18), 6);
    }

    void promise21Slot() {
        sentence("Promise 21:", "- `slot`: 0 or 1");
        for (int slot = 0; slot <= 1; slot++) {
            Counted x = new Counted();
            x.save(slot);
            x.pass(9);
            due("slot " + slot, x.restore(slot), 0);
            due("the minute", x.count(0), 0);
            due("the other one", x.restore(1 - slot), NOT_POSSIBLE);
        }
    }

    void promise21HowManyBatches() {
        sentence("Promise 21:", "Returns how many batches there are then");
        Counted x = new Counted();
        for (int batches = 0; batches < 40; batches++) {
            x.save(0);
            x.mail(0, 1, 0, 5);
            x.save(1);
            due("one less", x.restore(0), batches);
            due("one more", x.restore(1), batches + 1);
        }
        due("40", x.restore(1), 40);
        due("none of the old ones is told", x.count(1), 40);
        Counted none = new Counted();
        none.save(0);
        for (int batch = 0; batch < 40; batch++) {
            none.mail(0, 100, 0, 0);
        }
        none.pass(50);
        due("none", none.restore(0), 0);
        due("no batch", none.batch(0, 0), NO_SUCH);
        due("none to come", none.sortedAt(), 0);
        due("a new one", none.mail(1, 7, 3, 20), 0);
        pieces("it has nothing of the one that was there", none, 0, 7, 0, 0, 0, 0);
        due("not its delay", none.batch(0, 9), 0);
        due("not its minute", none.batch(0, 10), NONE);
    }

    void promise21NoSuchSlot() {
        sentence("Promise 21:", "BAD_VALUE if there is no such slot");
        refused("restore(-1)", x -> x.restore(-1), BAD_VALUE);
        refused("restore(2)", x -> x.restore(2), BAD_VALUE);
        for (int far : FAR_BELOW) {
            refused("restore(" + far + ")", x -> x.restore(far), BAD_VALUE);
        }
        for (int far : FAR_ABOVE) {
            refused("restore(" + far + ")", x -> x.restore(far), BAD_VALUE);
        }
    }

    void promise21NothingSaved() {
        sentence("Promise 21:", "NOT_POSSIBLE if nothing was saved in it.");
        refused("restore(1)", x -> x.restore(1), NOT_POSSIBLE);
        refused(x -> { }, "restore(0)", x -> x.restore(0), NOT_POSSIBLE);
        refused(x -> x.save(1), "restore(0), saved in the other one", x -> x.restore(0), NOT_POSSIBLE);
        refused(x -> x.save(2), "restore(0), saved in none", x -> x.restore(0), NOT_POSSIBLE);
        Counted x = new Counted();
        x.set(STAFF, 9);
        x.save(0);
        x.undo();
        due("what was saved before undo()", x.restore(0), 0);
        due("what was saved before undo()", x.count(10), 9);
    }
}
