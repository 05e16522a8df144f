/** Compares answers with those that are due, and ends the test with exit code 1 if one was wrong. */
final class Check {
    private final String name;
    private int checked;
    private int wrong;

    Check(String name) {
        this.name = name;
    }

    void due(String call, long got, long want) {
        checked++;
        if (got != want) {
            wrong++;
            System.out.println(name + ": " + call + " answered " + got + ", due is " + want);
        }
    }

    void holds(String what, boolean holds) {
        due(what, holds ? 1 : 0, 1);
    }

    void finish() {
        System.out.println(name + ": " + checked + " answers, " + wrong + " of them wrong");
        if (wrong != 0 || checked == 0) {
            System.exit(1);
        }
    }

    /** Up to eight characters as the number that put() takes. */
    static long packed(String characters) {
        long number = 0;
        for (int i = 0; i < characters.length(); i++) {
            number = number << 8 | characters.charAt(i);
        }
        return number;
    }

    static void type(LetterRuns centre, String text) {
        for (int start = 0; start < text.length(); start += 8) {
            centre.put(packed(text.substring(start, Math.min(start + 8, text.length()))));
        }
    }

    /** Everything that can be asked about a centre and that no call of the asking changes. */
    static String state(LetterRuns centre) {
        StringBuilder state = new StringBuilder();
        for (int what = 0; what <= 18; what++) {
            state.append(centre.count(what)).append(' ');
        }
        for (int batch = 0; batch < 40; batch++) {
            state.append("\nb").append(batch);
            for (int what = 0; what <= 10; what++) {
                state.append(' ').append(centre.batch(batch, what));
            }
        }
        for (int machine = 0; machine < 3; machine++) {
            state.append("\nm").append(machine);
            for (int what = 0; what <= 5; what++) {
                state.append(' ').append(centre.machine(machine, what));
            }
            state.append(" queue");
            for (int place = 0; place < 40; place++) {
                state.append(' ').append(centre.queued(machine, place));
            }
        }
        for (int route = 0; route < 8; route++) {
            state.append("\nr").append(route);
            for (int what = 0; what <= 4; what++) {
                state.append(' ').append(centre.route(route, what));
            }
        }
        for (int delay = 0; delay <= 4; delay++) {
            state.append("\nd").append(centre.delayed(delay));
        }
        return state.append("\nf").append(centre.fault()).toString();
    }
}
