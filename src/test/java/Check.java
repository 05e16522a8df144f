/** Compares answers with those that are due, and ends the test with exit code 1 if one was wrong. */
final class Check {
    private final String name;
    private int checked;
    private int wrong;

    Check(String name) {
        this.name = name;
    }

    void due(String call, long got, long want) {
        checked++;
        if (got != want) {
            wrong++;
            System.out.println(name + ": " + call + " answered " + got + ", due is " + want);
        }
    }

    void holds(String what, boolean holds) {
        due(what, holds ? 1 : 0, 1);
    }

    /** Compares texts of several lines, and tells the first line in which they differ. */
    void same(String what, String got, String want) {
        String[] gotLines = got.split("\n");
        String[] wantLines = want.split("\n");
        int line = 0;
        while (line < gotLines.length && line < wantLines.length && gotLines[line].equals(wantLines[line])) {
            line++;
        }
        String here = line < gotLines.length ? gotLines[line] : "nothing";
        String due = line < wantLines.length ? wantLines[line] : "nothing";
        holds(what + ": \"" + here + "\", due is \"" + due + "\"", got.equals(want));
    }

    void finish() {
        System.out.println(name + ": " + checked + " answers, " + wrong + " of them wrong");
        if (wrong != 0 || checked == 0) {
            System.exit(1);
        }
    }

    /** Up to eight characters as the number that put() takes. */
    static long packed(String characters) {
        long number = 0;
        for (int i = 0; i < characters.length(); i++) {
            number = number << 8 | characters.charAt(i);
        }
        return number;
    }

    static void type(Face centre, String text) {
        for (int start = 0; start < text.length(); start += 8) {
            centre.put(packed(text.substring(start, Math.min(start + 8, text.length()))));
        }
    }
}
