/** Sentences of "What it is" and, under "Terms", of the conventions, the settings, the mail and the routes. */
public final class EdgesOfTermsTest extends Sentences {
    public static void main(String[] args) throws Exception {
        new EdgesOfTermsTest().run();
    }

    void face512Calls() {
        sentence("What it is", "An object is used for at most 512 calls after it has been made");
        Counted minutes = new Counted();
        Counted settings = new Counted();
        Counted texts = new Counted();
        for (int call = 0; call < 512; call++) {
            due("pass, call " + call, minutes.pass(1), call + 1);
            due("set, call " + call, settings.set(STAFF, call % 21), call == 0 ? 2 : (call - 1) % 21);
            due("put and wipe, call " + call, call % 2 == 0 ? texts.put('t') : texts.wipe(), 1);
        }
        due("calls", minutes.calls(), 512);
        Counted mail = new Counted();
        for (int batch = 0; batch < 40; batch++) {
            mail.mail(batch % 3, 999, batch % 8, 700);
        }
        for (int call = 40; call < 140; call++) {
            due("least, call " + call, mail.least(SPEED2, 3), NONE);
        }
        for (int call = 140; call < 510; call += 2) {
            due("save, call " + call, mail.save(call / 2 % 2), 40);
            due("restore, call " + (call + 1), mail.restore(call / 2 % 2), 40);
        }
        due("undo, call 510", mail.undo(), 5);
        due("pass, the 512th call", mail.pass(1440), 1440);
        due("calls", mail.calls(), 512);
    }

    void conventionsErrorCodes() {
        sentence("Terms", "A method that fails returns one of the error codes NO_SUCH (-1), BAD_VALUE (-2), BAD_TEXT (-3), TOO_MANY (-4) and NOT_POSSIBLE (-5)");
        Counted x = new Counted();
        due("NO_SUCH", x.cutoff(8, 50), -1);
        due("BAD_VALUE", x.set(9, 0), -2);
        due("BAD_TEXT", x.carryOut(), -3);
        type(x, "t".repeat(80));
        due("TOO_MANY", x.put('t'), -4);
        due("NOT_POSSIBLE", x.undo(), -5);
    }

    void constantsOfErrors() {
        sentence("Terms", "The constants: `NO_SUCH = -1, BAD_VALUE = -2, BAD_TEXT = -3, TOO_MANY = -4, NOT_POSSIBLE = -5, NONE = -6`: Error codes, and NONE: there is none.");
        due("NO_SUCH", LetterRuns.NO_SUCH, -1);
        due("BAD_VALUE", LetterRuns.BAD_VALUE, -2);
        due("BAD_TEXT", LetterRuns.BAD_TEXT, -3);
        due("TOO_MANY", LetterRuns.TOO_MANY, -4);
        due("NOT_POSSIBLE", LetterRuns.NOT_POSSIBLE, -5);
        due("NONE", LetterRuns.NONE, -6);
    }

    void constantsOfSettings() {
        sentence("Terms", "`SETUP = 0, REJECT = 1, STAFF = 2, HAND = 3, SHIFT = 4, OVER = 5, SPEED0 = 6, SPEED1 = 7, SPEED2 = 8`: Settings.");
        int[] settings = {LetterRuns.SETUP, LetterRuns.REJECT, LetterRuns.STAFF, LetterRuns.HAND, LetterRuns.SHIFT,
            LetterRuns.OVER, LetterRuns.SPEED0, LetterRuns.SPEED1, LetterRuns.SPEED2};
        for (int setting = 0; setting < settings.length; setting++) {
            due("setting " + setting, settings[setting], setting);
        }
    }

    void conventionsOrderOfErrors() {
        sentence("Terms", "it names its errors in the order in which they are checked, and the first one that applies is returned.");
        refused("cutoff(8, -1)", x -> x.cutoff(8, -1), NO_SUCH);
        refused("mail(3, 0, 0, -1)", x -> x.mail(3, 0, 0, -1), NO_SUCH);
        refused("mail(0, 0, 8, 1440)", x -> x.mail(0, 0, 8, 1440), NO_SUCH);
        refused("batch(40, 11)", x -> x.batch(40, 11), NO_SUCH);
        refused("machine(3, 6)", x -> x.machine(3, 6), NO_SUCH);
        refused("route(8, 5)", x -> x.route(8, 5), NO_SUCH);
        refused("restore(2)", x -> x.restore(2), BAD_VALUE);
        refused(EdgesOfTermsTest::fullCentre, "mail(3, 0, 0, -1) with 40 batches", x -> x.mail(3, 0, 0, -1), NO_SUCH);
        refused(EdgesOfTermsTest::fullCentre, "mail(0, 0, 0, 50) with 40 batches", x -> x.mail(0, 0, 0, 50), BAD_VALUE);
        refused(EdgesOfTermsTest::fullCentre, "mail(0, 1, 0, 1440) with 40 batches", x -> x.mail(0, 1, 0, 1440), BAD_VALUE);
        refused(EdgesOfTermsTest::fullCentre, "mail(0, 1, 0, 50) with 40 batches", x -> x.mail(0, 1, 0, 50), TOO_MANY);
        refused(x -> x.pass(1440), "pass(0) at the end", x -> x.pass(0), BAD_VALUE);
        refused(x -> x.pass(1440), "pass(1) at the end", x -> x.pass(1), NOT_POSSIBLE);
        refused(x -> type(x, "t".repeat(80)), "put(' ') on a full pad", x -> x.put(' '), BAD_VALUE);
        refused(x -> type(x, "t".repeat(80)), "put('t') on a full pad", x -> x.put('t'), TOO_MANY);
    }

    private static void fullCentre(Counted x) {
        for (int batch = 0; batch < 40; batch++) {
            x.mail(batch % 3, 1 + batch, batch % 8, batch);
        }
    }

    void conventionsAnErrorChangesNothing() {
        sentence("Terms", "A call that returns an error changes nothing.");
        refused("set(9, 0)", x -> x.set(9, 0), BAD_VALUE);
        refused("set(STAFF, 21)", x -> x.set(STAFF, 21), BAD_VALUE);
        refused("cutoff(8, 50)", x -> x.cutoff(8, 50), NO_SUCH);
        refused("cutoff(1, 1440)", x -> x.cutoff(1, 1440), BAD_VALUE);
        refused("mail(3, 5, 1, 50)", x -> x.mail(3, 5, 1, 50), NO_SUCH);
        refused("mail(0, 1000, 1, 50)", x -> x.mail(0, 1000, 1, 50), BAD_VALUE);
        refused("pass(0)", x -> x.pass(0), BAD_VALUE);
        refused("pass(1441)", x -> x.pass(1441), NOT_POSSIBLE);
        refused("least(STAFF, -1)", x -> x.least(STAFF, -1), BAD_VALUE);
        refused("put(0)", x -> x.put(0), BAD_VALUE);
        refused("put(' 1')", x -> x.put(Check.packed(" 1")), BAD_VALUE);
        refused("save(2)", x -> x.save(2), BAD_VALUE);
        refused("restore(1)", x -> x.restore(1), NOT_POSSIBLE);
        refused(x -> { }, "undo()", x -> x.undo(), NOT_POSSIBLE);
        refused(x -> type(x, "s9;t"), "carryOut()", x -> x.carryOut(), BAD_TEXT);
    }

    void conventionsNoneIsNoError() {
        sentence("Terms", "NONE (-6) is not an error; it is returned only if no error applies.");
        Counted x = plain(0, 0, 0, 1);
        x.mail(0, 5, 0, 800);
        due("no speed is enough", x.least(SPEED0, 4), NONE);
        due("a setting that is none of these", x.least(HAND, 4), BAD_VALUE);
        due("fewer than no pieces", x.least(SPEED0, -1), BAD_VALUE);
        due("a batch that is not sorted", x.batch(0, 10), NONE);
        due("no batch", x.batch(1, 10), NO_SUCH);
        due("a machine without a batch", x.machine(0, 0), NONE);
        due("no machine", x.machine(3, 0), NO_SUCH);
        due("no what", x.machine(0, -6), BAD_VALUE);
        due("a setting that was the least one", x.set(STAFF, 1), 0);
    }

    void conventionsNumberedFrom0() {
        sentence("Terms", "Everything is numbered from 0.");
        Counted x = plain(30, 0, 0, 1);
        due("setting 0", x.set(0, 29), 30);
        due("batch 0, shape 0, route 0, minute 0", x.mail(0, 3, 0, 0), 0);
        due("batch 1", x.mail(0, 4, 0, 0), 1);
        due("route 0", x.cutoff(0, 0), 720);
        due("slot 0", x.save(0), 2);
        due("a new object's minute is 0", x.count(0), 0);
        x.pass(1);
        due("machine 0", x.machine(0, 0), 0);
        due("place 0", x.queued(0, 0), 1);
        due("character 0", x.fault(), 0);
        refused("setting -1", c -> c.set(-1, 1), BAD_VALUE);
        refused("batch -1", c -> c.batch(-1, 0), NO_SUCH);
        refused("machine -1", c -> c.machine(-1, 0), NO_SUCH);
        refused("place -1", c -> c.queued(0, -1), NO_SUCH);
        refused("route -1", c -> c.route(-1, 0), NO_SUCH);
        refused("slot -1", c -> c.save(-1), BAD_VALUE);
    }

    void conventionsSetsAreBitMasks() {
        sentence("Terms", "Sets of batches are bit masks (long).");
        int[] late = {0, 1, 30, 31, 32, 33, 38, 39};
        for (int one : late) {
            Counted x = new Counted();
            x.cutoff(7, 5);
            for (int batch = 0; batch < 40; batch++) {
                x.mail(batch % 3, 1, batch == one ? 7 : 0, 5);
            }
            x.pass(6);
            due("batch " + one + " alone", x.delayed(4), 1L << one);
        }
        Counted all = new Counted();
        for (int batch = 0; batch < 40; batch++) {
            due("as many as there are", all.delayed(0), (1L << batch) - 1);
            all.mail(0, 1, 0, 0);
        }
        due("all 40", all.delayed(0), 0xFFFFFFFFFFL);
    }

    void conventionsDivisionsRoundDown() {
        sentence("Terms", "Divisions are rounded down.");
        Counted x = plain(0, 1, 0, 1);
        x.set(SPEED0, 100);
        x.mail(0, 999, 0, 0);
        x.mail(0, 1, 0, 0);
        x.pass(10);
        due("1 of 1000 rejects in 999 pieces", x.count(3), 0);
        x.pass(1);
        due("1 of 1000 rejects in 1000 pieces", x.count(3), 1);
    }

    /** The first value, the edges and what is beyond them, of a new object and of a busy one. */
    private void range(int setting) {
        due("the first value", new Counted().count(8 + setting), FIRST[setting]);
        Counted x = new Counted();
        due("the lowest value", x.set(setting, LOWEST[setting]), FIRST[setting]);
        due("is it", x.count(8 + setting), LOWEST[setting]);
        due("the highest value", x.set(setting, HIGHEST[setting]), LOWEST[setting]);
        due("is it", x.count(8 + setting), HIGHEST[setting]);
        refused("below the lowest value", c -> c.set(setting, LOWEST[setting] - 1), BAD_VALUE);
        refused("above the highest value", c -> c.set(setting, HIGHEST[setting] + 1), BAD_VALUE);
    }

    void settingsSetup() {
        sentence("Terms", "SETUP (0 to 30; 3), in minutes");
        range(SETUP);
        int[][] minutes = {{0, 0}, {1, 1}, {3, 3}, {30, 30}};
        for (int[] row : minutes) {
            Counted x = plain(row[0], 0, 0, 1);
            x.mail(0, 1, 0, 0);
            x.pass(40);
            due("sorted behind " + row[0] + " minutes", x.batch(0, 10), row[1]);
        }
    }

    void settingsReject() {
        sentence("Terms", "REJECT (0 to 500; 20): rejects in 1000 pieces");
        range(REJECT);
        int[][] rejects = {{0, 0}, {1, 1}, {20, 20}, {499, 499}, {500, 500}};
        for (int[] row : rejects) {
            Counted x = plain(0, row[0], 0, 1);
            x.mail(0, 500, 0, 0);
            x.mail(1, 500, 0, 0);
            x.pass(100);
            due(row[0] + " in 1000 pieces", x.count(3), row[1]);
            due("all of them were sorted by a machine", x.machine(0, 4) + x.machine(1, 4), 1000);
        }
    }

    void settingsStaff() {
        sentence("Terms", "STAFF (0 to 20; 2)");
        range(STAFF);
        int[][] left = {{0, 25}, {1, 24}, {2, 23}, {20, 5}};
        for (int[] row : left) {
            Counted x = plain(0, 500, row[0], 1);
            x.mail(0, 50, 0, 0);
            x.pass(1);
            due("25 rejects, of which " + row[0] + " sort one each", x.count(4), row[1]);
        }
    }

    void settingsHand() {
        sentence("Terms", "HAND (1 to 50; 5): pieces that one of the staff sorts in a minute");
        range(HAND);
        int[][] left = {{1, 49}, {5, 45}, {49, 1}, {50, 0}};
        for (int[] row : left) {
            Counted x = plain(0, 500, 1, row[0]);
            x.set(SPEED0, 100);
            x.mail(0, 100, 0, 0);
            x.pass(1);
            due("50 rejects, of which one sorts " + row[0], x.count(4), row[1]);
        }
    }

    void settingsShift() {
        sentence("Terms", "SHIFT (0 to 1440; 480): the minute at which the shift ends");
        range(SHIFT);
        int[] ends = {0, 1, 479, 480, 1439, 1440};
        for (int end : ends) {
            Counted x = plain(0, 0, 1, 1);
            x.set(SHIFT, end);
            x.pass(1440);
            due("one of the staff costs 1 in each minute before " + end, x.count(5), end);
        }
        Counted first = plain(0, 0, 1, 1);
        first.pass(1440);
        due("480 at first", first.count(5), 480);
    }

    void settingsOver() {
        sentence("Terms", "OVER (0 or 1; 0): whether there is overtime");
        range(OVER);
        Counted x = plain(0, 500, 1, 1);
        x.set(SHIFT, 0);
        x.mail(0, 2, 0, 0);
        x.pass(5);
        due("no overtime at first", x.count(4), 1);
        x.set(OVER, 1);
        x.pass(1);
        due("overtime", x.count(4), 0);
    }

    void settingsSpeeds() {
        sentence("Terms", "SPEED0, SPEED1, SPEED2 (1 to 100 each; 50, 30, 10): the pieces that the machine of the shape 0, 1, 2 sorts in a minute.");
        for (int shape = 0; shape < 3; shape++) {
            range(SPEED0 + shape);
            int[] speeds = {1, FIRST[SPEED0 + shape], 99, 100};
            for (int speed : speeds) {
                Counted x = plain(0, 0, 0, 1);
                for (int other = 0; other < 3; other++) {
                    x.mail(other, 999, 0, 0);
                }
                x.set(SPEED0 + shape, speed);
                x.pass(1);
                for (int other = 0; other < 3; other++) {
                    due("machine " + other, x.machine(other, 4), other == shape ? speed : FIRST[SPEED0 + other]);
                }
            }
        }
    }

    void mail40Batches() {
        sentence("Terms", "There are up to 40 batches, numbered in the order in which they were told.");
        Counted x = new Counted();
        for (int batch = 0; batch < 40; batch++) {
            due("batch " + batch, x.mail(batch % 3, 1, 0, 1000 - batch), batch);
        }
        due("one more", x.mail(0, 1, 0, 1000), TOO_MANY);
        due("the last one has its number", x.batch(39, 3), 961);
        due("the first one has its number", x.batch(0, 3), 1000);
        due("no batch behind", x.batch(40, 3), NO_SUCH);
        due("one is undone", x.undo(), 5);
        due("no last one", x.batch(39, 3), NO_SUCH);
        due("there is room for one", x.mail(2, 7, 5, 900), 39);
        due("and for no other one", x.mail(2, 7, 5, 900), TOO_MANY);
        refused(EdgesOfTermsTest::fullCentre, "a batch too many", c -> c.mail(0, 1, 0, 1000), TOO_MANY);
    }

    void mailWhatABatchHas() {
        sentence("Terms", "A batch has a shape (0 letters, 1 flats, 2 parcels), a number of pieces (1 to 999), a route (0 to 7) and the minute in which it comes.");
        int[][] told = {{0, 1, 0, 0}, {1, 2, 1, 1}, {2, 999, 7, 1439}, {0, 998, 6, 1438}};
        Counted x = new Counted();
        for (int batch = 0; batch < told.length; batch++) {
            due("told", x.mail(told[batch][0], told[batch][1], told[batch][2], told[batch][3]), batch);
        }
        for (int batch = 0; batch < told.length; batch++) {
            for (int what = 0; what < 4; what++) {
                due("batch " + batch + ", " + what, x.batch(batch, what), told[batch][what]);
            }
        }
        refused("shape 3", c -> c.mail(3, 1, 0, 1439), NO_SUCH);
        refused("1000 pieces", c -> c.mail(0, 1000, 0, 1439), BAD_VALUE);
        refused("no piece", c -> c.mail(0, 0, 0, 1439), BAD_VALUE);
        refused("route 8", c -> c.mail(0, 1, 8, 1439), NO_SUCH);
        refused("minute 1440", c -> c.mail(0, 1, 0, 1440), BAD_VALUE);
    }

    void mailWhereThePiecesAre() {
        sentence("Terms", "Its pieces are with the machine, with the hands, sorted, or gone.");
        Counted x = plain(2, 500, 1, 1);
        x.set(SPEED0, 7);
        x.cutoff(0, 6);
        x.mail(0, 40, 0, 1);
        int[][] want = {{40, 0, 0, 0}, {40, 0, 0, 0}, {40, 0, 0, 0}, {33, 2, 5, 0}, {26, 5, 9, 0}, {19, 7, 14, 0},
            {12, 10, 4, 14}, {5, 12, 9, 14}, {0, 14, 12, 14}, {0, 13, 13, 14}};
        for (int minute = 0; minute < want.length; minute++) {
            x.pass(1);
            pieces("minute " + minute, x, 0, want[minute]);
        }
    }

    void routesFirstCutoff() {
        sentence("Terms", "Each route has a cutoff, a minute (720 at first).");
        Counted x = plain(0, 0, 0, 1);
        for (int route = 0; route < 8; route++) {
            due("route " + route, x.route(route, 0), 720);
            x.mail(0, 1, route, 711 + route);
        }
        x.mail(1, 1, 0, 719);
        x.mail(2, 1, 0, 720);
        x.pass(720);
        due("none is gone before it", x.count(6), 0);
        x.pass(1);
        due("all that were sorted before 720", x.count(6), 9);
        due("what came in it has missed it", x.count(7), 1);
    }
}
