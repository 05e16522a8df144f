/** The document's methods, so that a call can be made on the program and on what it is compared with. */
interface Face {
    int set(int setting, int value);

    int cutoff(int route, int minute);

    int mail(int shape, int pieces, int route, int minute);

    int pass(int minutes);

    int batch(int batch, int what);

    int machine(int machine, int what);

    int route(int route, int what);

    int count(int what);

    long delayed(int delay);

    int queued(int machine, int place);

    int sortedAt();

    int wouldMiss();

    int least(int setting, int pieces);

    int put(long characters);

    int wipe();

    int fault();

    int carryOut();

    int undo();

    int save(int slot);

    int restore(int slot);
}
