/** A LetterRuns that counts its calls: the document promises nothing for more than 512 of them, so no test makes more. */
final class Counted implements Face {
    static final int MOST_CALLS = 512;

    private final LetterRuns centre = new LetterRuns();
    private int calls;

    private LetterRuns used() {
        calls++;
        if (calls > MOST_CALLS) {
            throw new IllegalStateException("the test makes more than 512 calls");
        }
        return centre;
    }

    int calls() {
        return calls;
    }

    @Override
    public int set(int setting, int value) {
        return used().set(setting, value);
    }

    @Override
    public int cutoff(int route, int minute) {
        return used().cutoff(route, minute);
    }

    @Override
    public int mail(int shape, int pieces, int route, int minute) {
        return used().mail(shape, pieces, route, minute);
    }

    @Override
    public int pass(int minutes) {
        return used().pass(minutes);
    }

    @Override
    public int batch(int batch, int what) {
        return used().batch(batch, what);
    }

    @Override
    public int machine(int machine, int what) {
        return used().machine(machine, what);
    }

    @Override
    public int route(int route, int what) {
        return used().route(route, what);
    }

    @Override
    public int count(int what) {
        return used().count(what);
    }

    @Override
    public long delayed(int delay) {
        return used().delayed(delay);
    }

    @Override
    public int queued(int machine, int place) {
        return used().queued(machine, place);
    }

    @Override
    public int sortedAt() {
        return used().sortedAt();
    }

    @Override
    public int wouldMiss() {
        return used().wouldMiss();
    }

    @Override
    public int least(int setting, int pieces) {
        return used().least(setting, pieces);
    }

    @Override
    public int put(long characters) {
        return used().put(characters);
    }

    @Override
    public int wipe() {
        return used().wipe();
    }

    @Override
    public int fault() {
        return used().fault();
    }

    @Override
    public int carryOut() {
        return used().carryOut();
    }

    @Override
    public int undo() {
        return used().undo();
    }

    @Override
    public int save(int slot) {
        return used().save(slot);
    }

    @Override
    public int restore(int slot) {
        return used().restore(slot);
    }
}
