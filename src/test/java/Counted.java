/** A LetterRuns that counts its calls: the document promises nothing for more than 512 of them, so no test makes more. */
final class Counted {
    static final int MOST_CALLS = 512;

    private final LetterRuns centre = new LetterRuns();
    private int calls;

    private LetterRuns used() {
        calls++;
        if (calls > MOST_CALLS) {
            throw new IllegalStateException("the test makes more than 512 calls");
        }
        return centre;
    }

    int calls() {
        return calls;
    }

    int set(int setting, int value) {
        return used().set(setting, value);
    }

    int cutoff(int route, int minute) {
        return used().cutoff(route, minute);
    }

    int mail(int shape, int pieces, int route, int minute) {
        return used().mail(shape, pieces, route, minute);
    }

    int pass(int minutes) {
        return used().pass(minutes);
    }

    int batch(int batch, int what) {
        return used().batch(batch, what);
    }

    int machine(int machine, int what) {
        return used().machine(machine, what);
    }

    int route(int route, int what) {
        return used().route(route, what);
    }

    int count(int what) {
        return used().count(what);
    }

    long delayed(int delay) {
        return used().delayed(delay);
    }

    int queued(int machine, int place) {
        return used().queued(machine, place);
    }

    int sortedAt() {
        return used().sortedAt();
    }

    int wouldMiss() {
        return used().wouldMiss();
    }

    int least(int setting, int pieces) {
        return used().least(setting, pieces);
    }

    int put(long characters) {
        return used().put(characters);
    }

    int wipe() {
        return used().wipe();
    }

    int fault() {
        return used().fault();
    }

    int carryOut() {
        return used().carryOut();
    }

    int undo() {
        return used().undo();
    }

    int save(int slot) {
        return used().save(slot);
    }

    int restore(int slot) {
        return used().restore(slot);
    }
}
