/** Sentences of "Texts" and of the promises 15 to 18: put, wipe, fault, carryOut. */
public final class EdgesOfTextsTest extends Sentences {
    private static final String DIGITS = "0123456789";

    public static void main(String[] args) throws Exception {
        new EdgesOfTextsTest().run();
    }

    private static Counted typed(String text) {
        return made(x -> type(x, text));
    }

    /** Behind a text that can go on, each character is right or wrong: then the fault is its index. */
    private void goesOn(String text, String right) {
        for (char next = 33; next <= 126; next++) {
            Counted x = typed(text + next);
            if (right.indexOf(next) < 0) {
                due("fault of " + text + next, x.fault(), text.length());
                due("carryOut of " + text + next, x.carryOut(), BAD_TEXT);
            } else {
                int fault = x.fault();
                due(next + " can stand behind " + text, fault == NONE || fault == text.length() + 1 ? 1 : 0, 1);
            }
        }
    }

    // ---- texts

    void textsOf80Characters() {
        sentence("Terms", "The pad is a text of at most 80 characters, a row of orders");
        Counted x = new Counted();
        for (int order = 0; order < 26; order++) {
            due("three more", x.put(Check.packed("t1;")), 3 * order + 3);
        }
        due("80", x.put(Check.packed("t1")), 80);
        due("a text of 80 characters", x.fault(), NONE);
        due("one more", x.put('1'), TOO_MANY);
        due("27 orders", x.carryOut(), 27);
        due("27 minutes", x.count(0), 27);
        due("then it can be filled again", x.put('t'), 1);
    }

    void textsRowOfOrders() {
        sentence("Terms", "text = order { \";\" order }");
        String[] orders = {"l1>0@0", "f1>0@0", "p1>0@0", "c0=0", "t0", "s0"};
        for (String first : orders) {
            due("fault of " + first, typed(first).fault(), NONE);
            goesOn(first, ";");
            goesOn(first + ";", "lfpcts");
            due("fault of " + first + ";", typed(first + ";").fault(), first.length() + 1);
            for (String second : orders) {
                due("fault of " + first + ";" + second, typed(first + ";" + second).fault(), NONE);
            }
        }
        due("a semicolon alone", typed(";").fault(), 0);
        due("two semicolons", typed("t0;;t0").fault(), 3);
    }

    void textsOrderOfMail() {
        sentence("Terms", "order = shape number \">\" digit \"@\" number");
        for (String shape : new String[] {"l", "f", "p"}) {
            goesOn(shape, DIGITS);
            goesOn(shape + "7", DIGITS + ">");
            goesOn(shape + "7>", "01234567");
            goesOn(shape + "7>3", "@");
            goesOn(shape + "7>3@", DIGITS);
            goesOn(shape + "7>3@5", DIGITS + ";");
        }
    }

    void textsOrdersOfCutoffTimeAndStaff() {
        sentence("Terms", "| \"c\" digit \"=\" number | \"t\" number | \"s\" number");
        goesOn("c", "01234567");
        goesOn("c3", "=");
        goesOn("c3=", DIGITS);
        goesOn("c3=5", DIGITS + ";");
        goesOn("t", DIGITS);
        goesOn("t5", DIGITS + ";");
        goesOn("s", DIGITS);
        goesOn("s5", DIGITS + ";");
    }

    void textsWhatOrdersDo() {
        sentence("Terms", "A shape is \"l\", \"f\" or \"p\" (0 to 2): a batch of so many pieces for a route, that comes in a minute: mail(); \"c\": cutoff() of a route; \"t\": pass() minutes; \"s\": set() of STAFF.");
        String[] mail = {"l12>7@1439", "f999>0@0", "p1>3@9"};
        int[][] told = {{0, 12, 7, 1439}, {1, 999, 0, 0}, {2, 1, 3, 9}};
        for (int i = 0; i < mail.length; i++) {
            Counted x = typed(mail[i]);
            due(mail[i], x.carryOut(), 1);
            due("batches", x.count(1), 1);
            for (int what = 0; what < 4; what++) {
                due(mail[i] + ", " + what, x.batch(0, what), told[i][what]);
            }
        }
        for (int route = 0; route < 8; route++) {
            Counted x = typed("c" + route + "=1439");
            due("a cutoff", x.carryOut(), 1);
            for (int other = 0; other < 8; other++) {
                due("of route " + route, x.route(other, 0), other == route ? 1439 : 720);
            }
        }
        Counted time = typed("t1440");
        due("t1440", time.carryOut(), 1);
        due("t1440", time.count(0), 1440);
        Counted staff = typed("s20");
        due("s20", staff.carryOut(), 1);
        for (int setting = 0; setting <= 8; setting++) {
            due("s20, setting " + setting, staff.count(8 + setting), setting == STAFF ? 20 : FIRST[setting]);
        }
    }

    void textsDigit() {
        sentence("Terms", "A digit is 0 to 7");
        for (int digit = 0; digit <= 9; digit++) {
            due("route " + digit + " of mail", typed("l1>" + digit + "@1").fault(), digit <= 7 ? NONE : 3);
            due("route " + digit + " of a cutoff", typed("c" + digit + "=1").fault(), digit <= 7 ? NONE : 1);
        }
        goesOn("c7", "=");
        goesOn("l1>0", "@");
    }

    void textsNumber() {
        sentence("Terms", "a number 0 to 9999, without leading zeros.");
        String[] right = {"0", "1", "9", "10", "99", "100", "999", "1000", "1439", "1440", "9998", "9999"};
        for (String number : right) {
            due("pieces " + number, typed("l" + number + ">0@0").fault(), NONE);
            due("minute of mail " + number, typed("l1>0@" + number).fault(), NONE);
            due("minute of a cutoff " + number, typed("c0=" + number).fault(), NONE);
            due("minutes " + number, typed("t" + number).fault(), NONE);
            due("staff " + number, typed("s" + number).fault(), NONE);
        }
        String[] behind = {"l", "l1>0@", "c0=", "t", "s"};
        for (String start : behind) {
            String then = start.equals("l") ? ">" : ";";
            goesOn(start + "0", then);
            goesOn(start + "1", DIGITS + then);
            goesOn(start + "10", DIGITS + then);
            goesOn(start + "999", DIGITS + then);
            goesOn(start + "1000", then);
            goesOn(start + "9999", then);
        }
        due("00", typed("t00").fault(), 2);
        due("01", typed("t01").fault(), 2);
    }

    void textsFirstThatCannotStand() {
        sentence("Terms", "The fault is the index of the first character that cannot stand at its place when the text is read from left to right");
        goesOn("", "lfpcts");
        due("the first of two", typed("t1;x;y").fault(), 3);
        due("at the start", typed("xt1").fault(), 0);
        due("at the end", typed("t1x").fault(), 2);
        due("what comes behind does not matter", typed("l5>8@1").fault(), 3);
        String before = "t1;".repeat(26);
        due("the last one of 80", typed(before + "tt").fault(), 79);
        due("the last but one of 80", typed(before + "xt").fault(), 78);
    }

    void textsAbove9999() {
        sentence("Terms", "(also of a digit by which a number would be above 9999)");
        due("10000", typed("t10000").fault(), 5);
        due("99999", typed("t99999").fault(), 5);
        due("100000", typed("t100000").fault(), 5);
        due("2147483648", typed("t2147483648").fault(), 5);
        due("4294967297", typed("s4294967297").fault(), 5);
        due("pieces", typed("l10000>0@0").fault(), 5);
        due("minute of mail", typed("l1>0@10000").fault(), 9);
        due("minute of a cutoff", typed("c0=10000").fault(), 7);
        due("staff", typed("s10000").fault(), 5);
        due("in the second order", typed("t9999;t10000").fault(), 11);
    }

    void textsTooEarly() {
        sentence("Terms", "if there is none and the text ends too early (also if it is empty), it is the length of the text.");
        due("empty", new Counted().fault(), 0);
        String[] texts = {"l5>7@3;f20>0@14;p999>1@1439;c0=5;t2;s9"};
        for (String text : texts) {
            String complete = "";
            for (String order : text.split(";")) {
                for (int end = 1; end <= order.length(); end++) {
                    String some = complete + order.substring(0, end);
                    boolean whole = order.substring(0, end).matches("[lfp]\\d+>\\d@\\d+|c\\d=\\d+|[ts]\\d+");
                    due("fault of " + some, typed(some).fault(), whole ? NONE : some.length());
                }
                complete += order + ";";
                due("fault of " + complete, typed(complete).fault(), complete.length());
            }
        }
        Counted full = typed("t1;".repeat(24) + "l12>3@5;");
        due("80 characters that end too early", full.fault(), 80);
        due("80 characters that end too early", full.carryOut(), BAD_TEXT);
    }

    // ---- promise 15

    void promise15Appends() {
        sentence("Promise 15:", "Appends characters to the pad.");
        Counted x = new Counted();
        x.put('t');
        x.put(Check.packed("12"));
        due("t12", x.fault(), NONE);
        x.put(Check.packed(";s3"));
        due("two orders", x.carryOut(), 2);
        due("12 minutes", x.count(0), 12);
        due("3 of the staff", x.count(10), 3);
        x.put(Check.packed("t5"));
        due("behind none of them", x.carryOut(), 1);
        due("5 minutes more", x.count(0), 17);
        due("put() is no change", x.count(18), 2);
    }

    void promise15AsANumber() {
        sentence("Promise 15:", "its lowest 8 bits are the last character, the next 8 bits the one before, and so on");
        Counted two = new Counted();
        two.put(0x7431);
        due("t1", two.carryOut(), 1);
        Counted eight = new Counted();
        due("eight characters", eight.put(0x6C35333E36403738L), 8);
        due("l53>6@78", eight.carryOut(), 1);
        int[] told = {0, 53, 6, 78};
        for (int what = 0; what < 4; what++) {
            due("l53>6@78, " + what, eight.batch(0, what), told[what]);
        }
    }

    void promise15NoMoreCharacters() {
        sentence("Promise 15:", "8 bits that are 0 mean that there are no more characters, and everything above them has to be 0, too.");
        for (int number = 1; number <= 8; number++) {
            long characters = Check.packed("tttttttt".substring(0, number));
            due(number + " characters", new Counted().put(characters), number);
            if (number < 7) {
                long next = (long) 't' << 8 * (number + 1) | characters;
                refused("a character above " + number, x -> x.put(next), BAD_VALUE);
                for (int bit = 8 * (number + 1); bit < 64; bit++) {
                    due("bit " + bit + " above " + number, new Counted().put(characters | 1L << bit), BAD_VALUE);
                }
            }
        }
    }

    void promise15OneToEight() {
        sentence("Promise 15:", "- `characters`: 1 to 8 characters");
        due("one, the least", new Counted().put(33), 1);
        due("one, the greatest", new Counted().put(126), 1);
        due("eight, the least", new Counted().put(0x2121212121212121L), 8);
        due("eight, the greatest", new Counted().put(0x7E7E7E7E7E7E7E7EL), 8);
        refused("none", x -> x.put(0), BAD_VALUE);
    }

    void promise15Length() {
        sentence("Promise 15:", "Returns the length of the pad then");
        Counted x = new Counted();
        int length = 0;
        for (int number = 1; number <= 8; number++) {
            length += number;
            due(number + " more", x.put(Check.packed("tttttttt".substring(0, number))), length);
            due("the length", x.count(17), length);
        }
        x.wipe();
        due("from the start", x.put('t'), 1);
    }

    void promise15BadValue() {
        sentence("Promise 15:", "BAD_VALUE if there is no character, a code is not 33 to 126, or a bit above 8 bits that are 0 is not 0");
        long[] wrong = {0, 1, 31, 32, 127, 128, 160, 255, 256, 't' << 8, 't' << 8 | 32, 't' << 8 | 127, 32 << 8 | 't', 127 << 8 | 't',
            't' << 16 | 't', (long) 't' << 56, (long) 't' << 56 | 't', 1L << 63 | 't', 0x2074747474747474L, 0x7F74747474747474L,
            0xF474747474747474L, 0x8074747474747474L, 0x0174747474747474L, 0x747474747474747FL, 0x7474747474747420L, -1,
            Long.MIN_VALUE, Long.MIN_VALUE + 1, Long.MAX_VALUE, Long.MAX_VALUE - 1, Integer.MIN_VALUE, Integer.MAX_VALUE, -116};
        for (long characters : wrong) {
            refused("put(" + characters + ")", x -> x.put(characters), BAD_VALUE);
        }
        for (int code = 0; code < 256; code++) {
            due("code " + code, new Counted().put(code), code >= 33 && code <= 126 ? 1 : BAD_VALUE);
            due("code " + code + " as the first of two", new Counted().put(code << 8 | 't'), code == 0 ? 1
                : code >= 33 && code <= 126 ? 2 : BAD_VALUE);
        }
    }

    void promise15TooMany() {
        sentence("Promise 15:", "TOO_MANY if the pad would be longer than 80.");
        for (int room = 0; room <= 8; room++) {
            String text = "t".repeat(80 - room);
            for (int number = 1; number <= 8; number++) {
                String added = "tttttttt".substring(0, number);
                Counted x = typed(text);
                due(number + " to " + (80 - room), x.put(Check.packed(added)), number <= room ? 80 - room + number : TOO_MANY);
            }
        }
        refused(x -> type(x, "t1;".repeat(26) + "t1"), "one to 80", x -> x.put('1'), TOO_MANY);
        refused(x -> type(x, "t1;".repeat(26) + "t"), "two to 79", x -> x.put(Check.packed("11")), TOO_MANY);
        refused(x -> type(x, "t1;".repeat(24) + "t"), "eight to 73", x -> x.put(Check.packed("11111111")), TOO_MANY);
    }

    // ---- promise 16

    void promise16Length() {
        sentence("Promise 16:", "Empties the pad, and returns the length that it had.");
        for (int length = 0; length <= 80; length += 8) {
            Counted x = typed("t".repeat(length));
            due("wipe", x.wipe(), length);
            due("it is empty", x.count(17), 0);
            due("it is empty", x.fault(), 0);
            due("wipe again", x.wipe(), 0);
            due("it is no change", x.count(18), 0);
        }
        Counted x = typed("t5;s");
        x.wipe();
        type(x, "t6");
        due("nothing of it stays", x.carryOut(), 1);
        due("nothing of it stays", x.count(0), 6);
    }

    // ---- promise 17

    void promise17Fault() {
        sentence("Promise 17:", "Returns the fault of the pad, NONE if there is none.");
        Object[][] texts = {{"", 0}, {"t", 1}, {"t0", NONE}, {"t0;", 3}, {"t0;s", 4}, {"t0;s1", NONE}, {"t0;s1x", 5}};
        for (Object[] row : texts) {
            Counted x = typed((String) row[0]);
            String before = numbers(x);
            for (int time = 0; time < 3; time++) {
                due("fault of " + row[0], x.fault(), (Integer) row[1]);
            }
            same("nothing changes", numbers(x), before);
        }
    }

    // ---- promise 18

    void promise18UpToTheFirstError() {
        sentence("Promise 18:", "Carries the orders of the pad out, one after the other, up to the first one that returns an error, and empties the pad.");
        String[] wrong = {"l0>0@50", "l1000>0@50", "l1>0@4", "l1>0@1440", "c0=4", "c0=1440", "t0", "t1436", "s21", "s9999"};
        for (String order : wrong) {
            Counted x = typed("s3;t5;" + order + ";s4;t1;s5");
            due("orders up to " + order, x.carryOut(), 2);
            due("before it", x.count(10), 3);
            due("before it", x.count(0), 5);
            due("not itself", x.count(1), 0);
            due("the pad is empty", x.count(17), 0);
        }
        String[] right = {"l1>0@50", "l999>7@5", "l1>0@5", "l1>0@1439", "c0=5", "c7=1439", "t1", "t1434", "s20", "s0"};
        for (String order : right) {
            Counted x = typed("s3;t5;" + order + ";t1");
            due("orders with " + order, x.carryOut(), 4);
            due("the pad is empty", x.count(17), 0);
        }
        Counted order = typed("l1>0@0;t1;l1>0@0");
        due("mail for a minute that the text lets pass", order.carryOut(), 2);
        due("the first one", order.count(1), 1);
        Counted full = new Counted();
        for (int batch = 0; batch < 39; batch++) {
            full.mail(0, 1, 0, 0);
        }
        type(full, "p1>1@5;f1>1@5;t1");
        due("up to the 41st batch", full.carryOut(), 1);
        due("the 40th", full.batch(39, 0), 2);
        due("no minute", full.count(0), 0);
    }

    void promise18OneChange() {
        sentence("Promise 18:", "This is a change (one, with all of them; also if none is carried out).");
        Counted x = typed("s3;t5;l5>1@9;c1=99");
        x.carryOut();
        due("one change", x.count(18), 1);
        due("undo", x.undo(), 0);
        due("the staff", x.count(10), 2);
        due("the minute", x.count(0), 0);
        due("the mail", x.count(1), 0);
        due("the cutoff", x.route(1, 0), 720);
        due("the pad stays empty", x.count(17), 0);
        Counted none = typed("t0;s3");
        due("none is carried out", none.carryOut(), 0);
        due("also a change", none.count(18), 1);
        due("undo", none.undo(), 0);
        due("nothing", none.count(10), 2);
        Counted full = made(Sentences::busy);
        full.wipe();
        for (int change = 0; change < 7; change++) {
            full.set(SHIFT, change);
        }
        type(full, "t0");
        full.carryOut();
        due("six at most", full.count(18), 6);
        full.undo();
        due("nothing is different", full.count(12), 6);
        full.undo();
        due("the change before it", full.count(12), 5);
    }

    void promise18HowMany() {
        sentence("Promise 18:", "Returns how many orders were carried out");
        for (int orders = 1; orders <= 27; orders++) {
            String text = "t1;".repeat(orders);
            due(orders + " orders", typed(text.substring(0, text.length() - 1)).carryOut(), orders);
            String wrong = text.substring(0, text.length() - 2) + "0";
            due("all but the last one of " + orders, typed(wrong).carryOut(), orders - 1);
        }
        due("none", typed("t0;t1").carryOut(), 0);
    }

    void promise18BadText() {
        sentence("Promise 18:", "BAD_TEXT if the pad has a fault (then it stays).");
        String[] texts = {"", "t", "t1;", "t1;x", "s3;t5;l1>8@4", "t01", "t10000", "x"};
        for (String text : texts) {
            refused(x -> type(x, text), "carryOut of " + text, x -> x.carryOut(), BAD_TEXT);
            due("the pad stays", made(x -> {
                type(x, text);
                x.carryOut();
            }).count(17), text.length());
        }
        Counted then = typed("s3;t");
        then.carryOut();
        then.put('8');
        due("then it can be ended", then.carryOut(), 2);
        due("then it can be ended", then.count(0), 8);
    }
}
