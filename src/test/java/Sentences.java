import java.io.IOException;
import java.lang.reflect.InvocationTargetException;
import java.lang.reflect.Method;
import java.lang.reflect.Modifier;
import java.nio.file.Files;
import java.nio.file.Path;
import java.util.Arrays;
import java.util.Comparator;

/**
 * Tests of single sentences of the document. Each method of a class below this one is a test of one sentence: it says
 * first, word by word, which one it is, so that a sentence is found by its words, and a word that the document does not
 * have is told.
 */
abstract class Sentences {
    /** The constants as the document tells them; FaceTest looks whether the program has the same ones. */
    static final int NO_SUCH = -1, BAD_VALUE = -2, BAD_TEXT = -3, TOO_MANY = -4, NOT_POSSIBLE = -5, NONE = -6;
    static final int SETUP = 0, REJECT = 1, STAFF = 2, HAND = 3, SHIFT = 4, OVER = 5, SPEED0 = 6, SPEED1 = 7, SPEED2 = 8;

    static final int[] LOWEST = {0, 0, 0, 1, 0, 0, 1, 1, 1};
    static final int[] HIGHEST = {30, 500, 20, 50, 1440, 1, 100, 100, 100};
    static final int[] FIRST = {3, 20, 2, 5, 480, 0, 50, 30, 10};

    /** Numbers that no range of the document has above or below its edges. */
    static final int[] FAR_BELOW = {Integer.MIN_VALUE, Integer.MIN_VALUE + 1, -65536, -256, -7};
    static final int[] FAR_ABOVE = {65536, Integer.MAX_VALUE - 1, Integer.MAX_VALUE};

    private static final Path DOCUMENT = Path.of("../shared/DOC.md");

    interface Calls {
        void on(Counted x);
    }

    interface Call {
        long on(Counted x);
    }

    private interface Asking {
        String of(Counted x);
    }

    private final Check check = new Check(getClass().getName());
    private final String document = document();
    private String test;
    private String sentence;

    private static String document() {
        if (!Files.isReadable(DOCUMENT)) {
            System.out.println(DOCUMENT + " is not there: nobody looks whether it has the sentences");
            return null;
        }
        try {
            return Files.readString(DOCUMENT).replaceAll("[ \r]*\n", "\n");
        } catch (IOException e) {
            throw new IllegalStateException(e);
        }
    }

    /** Runs every test of the class below this one. */
    final void run() throws IllegalAccessException {
        Method[] tests = getClass().getDeclaredMethods();
        Arrays.sort(tests, Comparator.comparing(Method::getName));
        for (Method one : tests) {
            if (one.isSynthetic() || Modifier.isStatic(one.getModifiers()) || one.getParameterCount() > 0) {
                continue;
            }
            test = one.getName();
            sentence = null;
            try {
                one.invoke(this);
            } catch (InvocationTargetException e) {
                e.getCause().printStackTrace(System.out);
                due("the test's calls", 1, 0);
            }
            due("the test names its sentence", sentence == null ? 0 : 1, 1);
        }
        check.finish();
    }

    /** Names the sentence that the test is about, and the part of the document that has it. */
    final void sentence(String part, String words) {
        due("the test's sentences", sentence == null ? 0 : 1, 0);
        sentence = words;
        if (document != null) {
            due("the document has the sentence, under " + part, part(part).contains(words) ? 1 : 0, 1);
        }
    }

    private String part(String part) {
        int start = document.indexOf("\n## " + part);
        int end = document.indexOf("\n## ", start + 1);
        return start < 0 ? "" : document.substring(start, end < 0 ? document.length() : end);
    }

    final void due(String call, long got, long want) {
        check.due(test + " (\"" + sentence + "\"): " + call, got, want);
    }

    final void same(String what, String got, String want) {
        due(what, got.equals(want) ? 1 : 0, 1);
    }

    // ---- centres

    static Counted made(Calls calls) {
        Counted x = new Counted();
        calls.on(x);
        return x;
    }

    static Counted plain(int setup, int reject, int staff, int hand) {
        Counted x = new Counted();
        x.set(SETUP, setup);
        x.set(REJECT, reject);
        x.set(STAFF, staff);
        x.set(HAND, hand);
        return x;
    }

    /** Minute 4 of a day: mail everywhere, also by hand and to come, a text, a saved slot and a full history. */
    static void busy(Counted x) {
        x.set(SETUP, 1);
        x.set(REJECT, 300);
        x.set(HAND, 1);
        x.mail(0, 300, 1, 0);
        x.mail(0, 40, 2, 1);
        x.mail(1, 70, 1, 0);
        x.mail(2, 30, 3, 12);
        x.cutoff(1, 3);
        x.cutoff(2, 9);
        x.save(0);
        x.pass(3);
        x.set(STAFF, 3);
        x.pass(1);
        type(x, "s7;t2");
    }

    static void type(Counted x, String text) {
        for (int start = 0; start < text.length(); start += 8) {
            x.put(Check.packed(text.substring(start, Math.min(start + 8, text.length()))));
        }
    }

    final void pieces(String what, Counted x, int batch, int... want) {
        String[] where = {"with the machine", "with the hands", "sorted", "gone", "missed"};
        for (int i = 0; i < want.length; i++) {
            due(what + ": batch " + batch + ", " + where[i], x.batch(batch, 4 + i), want[i]);
        }
    }

    // ---- calls that change nothing

    /** A call that is an error for a new object and for a busy centre, and changes nothing of either. */
    final void refused(String name, Call wrong, long error) {
        refused(x -> { }, name, wrong, error);
        refused(Sentences::busy, name, wrong, error);
    }

    final void refused(Calls before, String name, Call wrong, long error) {
        due("an error is less than 0", error < 0 && error != NONE ? 1 : 0, 1);
        changesNothing(before, name, wrong, error);
    }

    /** Makes a call on one of two centres that are alike, and looks whether later calls show which one it was. */
    final void changesNothing(Calls before, String name, Call call, long want) {
        for (int row = 0; row < LATER.length; row++) {
            Counted tried = made(before);
            due(name, call.on(tried), want);
            String got = LATER[row].of(tried);
            same(name + " has changed nothing that row " + row + " of later calls shows", got, LATER[row].of(made(before)));
        }
    }

    /** What later calls can show. Each row is asked of a centre of its own, so that none makes more than 512 calls. */
    private static final Asking[] LATER = {
        x -> numbers(x),
        x -> batches(x, 0, 20),
        x -> batches(x, 20, 40),
        x -> x.pass(1) + numbers(x),
        x -> x.pass(2) + batches(x, 0, 20),
        x -> x.pass(1440 - x.count(0)) + numbers(x) + batches(x, 0, 20),
        x -> x.sortedAt() + " " + x.wouldMiss() + " " + x.least(STAFF, 9) + " " + x.least(SPEED0, 9),
        x -> undone(x),
        x -> x.restore(0) + numbers(x) + batches(x, 0, 20),
        x -> x.restore(1) + numbers(x) + batches(x, 0, 20),
        x -> x.put('1') + " " + x.fault() + " " + x.carryOut() + numbers(x),
        x -> x.put(Check.packed("t1")) + " " + x.fault() + " " + x.carryOut() + numbers(x),
        x -> x.mail(2, 999, 7, 1439) + " " + x.cutoff(7, 1439) + " " + x.set(SETUP, 0) + x.pass(1) + numbers(x),
    };

    /** All that can be asked without a batch's number. */
    static String numbers(Counted x) {
        StringBuilder told = new StringBuilder();
        for (int what = 0; what <= 18; what++) {
            told.append(' ').append(x.count(what));
        }
        for (int machine = 0; machine < 3; machine++) {
            for (int what = 0; what <= 5; what++) {
                told.append(' ').append(x.machine(machine, what));
            }
            int place = 0;
            for (int batch = x.queued(machine, 0); batch >= 0; batch = x.queued(machine, place)) {
                told.append(' ').append(batch);
                place++;
            }
        }
        for (int route = 0; route < 8; route++) {
            for (int what = 0; what <= 4; what++) {
                told.append(' ').append(x.route(route, what));
            }
        }
        for (int delay = 0; delay <= 4; delay++) {
            told.append(' ').append(x.delayed(delay));
        }
        return told.append(' ').append(x.fault()).toString();
    }

    static String batches(Counted x, int first, int end) {
        StringBuilder told = new StringBuilder();
        for (int batch = first; batch < end; batch++) {
            for (int what = 0; what <= 10; what++) {
                told.append(' ').append(x.batch(batch, what));
            }
        }
        return told.toString();
    }

    private static String undone(Counted x) {
        StringBuilder told = new StringBuilder();
        for (int undone = 0; undone < 8; undone++) {
            told.append(x.undo());
            for (int what = 0; what <= 18; what++) {
                told.append(' ').append(x.count(what));
            }
            for (int route = 0; route < 8; route++) {
                told.append(' ').append(x.route(route, 0)).append(' ').append(x.route(route, 3));
            }
        }
        return told.toString();
    }
}
