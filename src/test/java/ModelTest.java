/**
 * All promises, where they meet: many days of calls, the same ones each time, up to the 512th call of one object. Each answer
 * is compared with that of PlainCentre, and in between all that is there, on objects of their own.
 */
public final class ModelTest {
    private static final int DAYS_OF_A_KIND = 18;
    private static final int[] LOOKED_AT = {60, 130, 200, 270, 340, 380};
    private static final Check CHECK = new Check("ModelTest");

    public static void main(String[] args) {
        for (Days.Kind kind : Days.Kind.values()) {
            for (int number = 0; number < DAYS_OF_A_KIND; number++) {
                compare(kind, number);
            }
        }
        CHECK.finish();
    }

    private static void compare(Days.Kind kind, int number) {
        String name = kind + " " + number;
        Days days = new Days(kind, number);
        Counted one = new Counted();
        PlainCentre other = new PlainCentre();
        Run run = new Run();
        int looked = 0;
        while (one.calls() < Counted.MOST_CALLS) {
            Days.Step step = days.next(other);
            run.then(step.call());
            CHECK.due(name + ", call " + run.length() + ": " + step.words(), step.call().on(one), step.call().on(other));
            if (looked < LOOKED_AT.length && one.calls() == LOOKED_AT[looked]) {
                looked++;
                CHECK.same(name + ", behind call " + run.length(), run.state(), Run.state(other));
            }
        }
    }
}
