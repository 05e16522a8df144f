/** Promises 15 to 18: put, wipe, fault, carryOut. */
public final class TextsTest {
    private static final Check CHECK = new Check("TextsTest");

    public static void main(String[] args) {
        put();
        putWrong();
        putTooMany();
        wipe();
        faults();
        faultOfALongText();
        carryOut();
        carryOutEachOrder();
        carryOutUpToAnError();
        carryOutAFault();
        CHECK.finish();
    }

    private static void put() {
        Counted x = new Counted();
        CHECK.due("15: one character", x.put('t'), 1);
        CHECK.due("15: the last one is the lowest", x.put(Check.packed("12")), 3);
        CHECK.due("15: t12", x.fault(), -6);
        CHECK.due("15: eight characters", x.put(Check.packed(";l9>0@7;")), 11);
        CHECK.due("15: it is not a change", x.count(18), 0);
        CHECK.due("15: count(17)", x.count(17), 11);
        CHECK.due("15: the least code", x.put(33), 12);
        CHECK.due("15: the greatest code", x.put(126), 13);
        CHECK.due("15: eight of the greatest", x.put(0x7E7E7E7E7E7E7E7EL), 21);
    }

    private static void putWrong() {
        Counted x = new Counted();
        long[] wrong = {0, 32, 127, 128, 255, 't' << 8, 't' << 8 | 32, 32 << 8 | 't', 0x7400000031L, 0x740031L,
            -1, Long.MIN_VALUE, Long.MAX_VALUE, 0x7F31313131313131L, 0x2031313131313131L, 0x3100313131313131L,
            0x0100000000000031L, 0x8031L};
        for (long characters : wrong) {
            CHECK.due("15: put(" + characters + ")", x.put(characters), -2);
            CHECK.due("15: nothing was put", x.count(17), 0);
        }
    }

    private static void putTooMany() {
        Counted x = new Counted();
        Check.type(x, "t1234567".repeat(9));
        CHECK.due("15: 79", x.put(Check.packed("1234567")), 79);
        CHECK.due("15: 81", x.put(Check.packed("12")), -4);
        CHECK.due("15: wrong and too long", x.put(Check.packed("1 ")), -2);
        CHECK.due("15: 80", x.put('1'), 80);
        CHECK.due("15: 81", x.put('1'), -4);
        CHECK.due("15: no character at a full pad", x.put(0), -2);
        CHECK.due("15: 80", x.count(17), 80);
        Counted y = new Counted();
        Check.type(y, "t1234567".repeat(9));
        CHECK.due("15: eight to 80", y.put(Check.packed("12345678")), 80);
    }

    private static void wipe() {
        Counted x = new Counted();
        CHECK.due("16: an empty pad", x.wipe(), 0);
        Check.type(x, "t12;x");
        CHECK.due("16: five", x.wipe(), 5);
        CHECK.due("16: then none", x.wipe(), 0);
        CHECK.due("16: count(17)", x.count(17), 0);
        CHECK.due("16: it is not a change", x.count(18), 0);
        Check.type(x, "s1");
        CHECK.due("16: nothing is left of it", x.fault(), -6);
    }

    private static void faults() {
        Object[][] texts = {
            {"", 0}, {"l", 1}, {"x", 0}, {"L5", 0}, {";", 0}, {"0", 0}, {"l0", 2}, {"l01", 2}, {"l9999>", 6}, {"l99999", 5},
            {"l10000", 5}, {"l5>8", 3}, {"l5>9", 3}, {"l5>7", 4}, {"l5>77", 4}, {"l5>7@", 5}, {"l5>7@0", -6}, {"l5>7@00", 6},
            {"l5>7@9999", -6}, {"l5>7@12345", 9}, {"l>", 1}, {"l5@", 2}, {"l5;", 2}, {"l5>@", 3}, {"l5>7>", 4}, {"l5>7=", 4},
            {"l5>7;", 4}, {"l5>7@;", 5}, {"f1>0@1", -6}, {"p999>0@1439", -6}, {"c", 1}, {"c8", 1}, {"c7", 2}, {"c7=", 3},
            {"c7=0", -6}, {"c7@0", 2}, {"c77", 2}, {"c7=x", 3}, {"c7=100", -6}, {"t", 1}, {"t0", -6}, {"t-1", 1}, {"t1;", 3},
            {"t1;;", 3}, {"t1;s", 4}, {"t1;s2", -6}, {"t1s2", 2}, {"s00", 2}, {"s9999", -6}, {"s99991", 5}, {"a1", 0},
            {"t1;x1", 3}, {"t1,t1", 2}, {"l5>7@3;f2>0@1;p1>1@1;c0=5;t1;s1", -6}, {"tt", 1}, {"ll5", 1}, {"t1l", 2},
            {"t0;l1>1@1x", 9}, {"c0=1@", 4}, {"t05", 2}, {"m1", 0}, {"t9999;t10000", 11}, {"~", 0}, {"t~", 1}, {"t/", 1},
            {"t:", 1}, {"l1>/", 3}, {"l0>0@0", -6}
        };
        for (Object[] row : texts) {
            Counted x = new Counted();
            Check.type(x, (String) row[0]);
            CHECK.due("17: fault of " + row[0], x.fault(), (Integer) row[1]);
            CHECK.due("17: the pad stays", x.count(17), ((String) row[0]).length());
            CHECK.due("17: again", x.fault(), (Integer) row[1]);
        }
    }

    private static void faultOfALongText() {
        Counted x = new Counted();
        Check.type(x, "t1;".repeat(26));
        CHECK.due("17: 78 characters, ends too early", x.fault(), 78);
        Check.type(x, "t1");
        CHECK.due("17: 80 characters", x.fault(), -6);
        x.wipe();
        Check.type(x, "t1;".repeat(26) + "s;");
        CHECK.due("17: the last character", x.fault(), 79);
        x.wipe();
        Check.type(x, "t1;".repeat(24) + "l12>3@5;");
        CHECK.due("17: 80 characters end too early", x.fault(), 80);
    }

    private static void carryOut() {
        Counted x = new Counted();
        Check.type(x, "l5>7@3;f20>0@1;p999>1@1439;c0=5;t2;s9");
        CHECK.due("18: six orders", x.carryOut(), 6);
        CHECK.due("18: the pad is empty", x.count(17), 0);
        CHECK.due("18: one change", x.count(18), 1);
        CHECK.due("18: letters", x.batch(0, 0), 0);
        CHECK.due("18: flats", x.batch(1, 0), 1);
        CHECK.due("18: parcels", x.batch(2, 0), 2);
        CHECK.due("18: pieces", x.batch(0, 1), 5);
        CHECK.due("18: pieces", x.batch(2, 1), 999);
        CHECK.due("18: route", x.batch(0, 2), 7);
        CHECK.due("18: minute", x.batch(2, 3), 1439);
        CHECK.due("18: cutoff", x.route(0, 0), 5);
        CHECK.due("18: now", x.count(0), 2);
        CHECK.due("18: staff", x.count(10), 9);
        CHECK.due("18: the minutes passed with the mail", x.machine(1, 0), 1);
        CHECK.due("18: undone in one", x.undo(), 0);
        CHECK.due("18: no mail", x.count(1), 0);
        CHECK.due("18: minute 0", x.count(0), 0);
        CHECK.due("18: staff", x.count(10), 2);
        CHECK.due("18: the pad is not undone", x.count(17), 0);
    }

    private static void carryOutEachOrder() {
        String[] orders = {"l0>0@0", "l1000>0@0", "f1>0@1440", "p1>7@9999", "c0=1440", "c0=9999", "t0", "t1441", "t9999", "s21",
            "s9999"};
        for (String order : orders) {
            Counted x = new Counted();
            Check.type(x, order);
            CHECK.due("18: " + order, x.carryOut(), 0);
            CHECK.due("18: the pad is empty", x.count(17), 0);
            CHECK.due("18: recorded all the same", x.count(18), 1);
            CHECK.due("18: nothing was told", x.count(1), 0);
            CHECK.due("18: no minute passed", x.count(0), 0);
        }
        Counted x = new Counted();
        Check.type(x, "t1440");
        CHECK.due("18: the whole day", x.carryOut(), 1);
        CHECK.due("18: the whole day", x.count(0), 1440);
    }

    private static void carryOutUpToAnError() {
        Counted x = new Counted();
        Check.type(x, "s3;t5;l1>1@4;s4");
        CHECK.due("18: up to the mail for a minute that is over", x.carryOut(), 2);
        CHECK.due("18: before it", x.count(10), 3);
        CHECK.due("18: before it", x.count(0), 5);
        CHECK.due("18: the mail", x.count(1), 0);
        CHECK.due("18: the pad is empty", x.count(17), 0);
        for (int number = 0; number < 39; number++) {
            x.mail(0, 1, 0, 5);
        }
        Check.type(x, "l1>1@5;l1>1@5;t1");
        CHECK.due("18: up to the 41st batch", x.carryOut(), 1);
        CHECK.due("18: 40", x.count(1), 40);
        CHECK.due("18: no minute", x.count(0), 5);
    }

    private static void carryOutAFault() {
        Counted x = new Counted();
        CHECK.due("18: an empty pad", x.carryOut(), -3);
        Check.type(x, "s3;t5;");
        CHECK.due("18: ends too early", x.carryOut(), -3);
        CHECK.due("18: the pad stays", x.count(17), 6);
        CHECK.due("18: nothing is carried out", x.count(10), 2);
        CHECK.due("18: nothing is recorded", x.count(18), 0);
        Check.type(x, "t8");
        CHECK.due("18: then it goes on", x.carryOut(), 3);
        CHECK.due("18: now", x.count(0), 13);
        Check.type(x, "t8;q");
        CHECK.due("18: a fault", x.carryOut(), -3);
        CHECK.due("18: now", x.count(0), 13);
    }
}
