/**
 * A LeafTurner that is asked no more than the document promises to answer, 512 calls; a test that
 * asks more would rest on what is free.
 */
final class Turner {
    static final int MOST_CALLS = 512;

    private final LeafTurner turner = new LeafTurner();
    private int calls = 0;

    private LeafTurner asked() {
        if (calls == MOST_CALLS) {
            throw new IllegalStateException("the test makes more than 512 calls");
        }
        calls++;
        return turner;
    }

    int callsLeft() {
        return MOST_CALLS - calls;
    }

    int takeBook() {
        return asked().takeBook();
    }

    int layBook(int leaves, int seed) {
        return asked().layBook(leaves, seed);
    }

    int print(int page, int number) {
        return asked().print(page, number);
    }

    int turn() {
        return asked().turn();
    }

    int turnBack() {
        return asked().turnBack();
    }

    int shoot() {
        return asked().shoot();
    }

    int scan(int times) {
        return asked().scan(times);
    }

    int throwAway(int picture) {
        return asked().throwAway(picture);
    }

    int setSuction(int suction) {
        return asked().setSuction(suction);
    }

    int set(int which, int value) {
        return asked().set(which, value);
    }

    int type(char character) {
        return asked().type(character);
    }

    int clearText() {
        return asked().clearText();
    }

    int undo() {
        return asked().undo();
    }

    int keep() {
        return asked().keep();
    }

    int restore() {
        return asked().restore();
    }

    int leaf(int leaf, int what) {
        return asked().leaf(leaf, what);
    }

    int page(int page, int what) {
        return asked().page(page, what);
    }

    int picture(int picture, int what) {
        return asked().picture(picture, what);
    }

    int open(int side) {
        return asked().open(side);
    }

    int would(int suction) {
        return asked().would(suction);
    }

    int best() {
        return asked().best();
    }

    int lacking(int rank) {
        return asked().lacking(rank);
    }

    int count(int what) {
        return asked().count(what);
    }
}
