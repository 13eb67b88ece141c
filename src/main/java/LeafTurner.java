import java.util.Arrays;

/**
 * A scanner for bound books whose turner lifts leaves by suction.
 *
 * Every row is made once, in the constructor: no call makes an object, so that a long run of
 * calls needs no more room than a short one.
 */
public final class LeafTurner {
    public static final int UNKNOWN = -1;
    public static final int BAD_VALUE = -2;
    public static final int FULL = -3;
    public static final int NOT_POSSIBLE = -4;
    public static final int NONE = -5;

    private static final int MOST_LEAVES = 30;
    private static final int MOST_PAGES = 60;
    private static final int MOST_PICTURES = 80;
    private static final int MOST_CHARACTERS = 60;
    private static final int MOST_STATES = 4;
    private static final int MOST_SUCTION = 20;
    private static final int MOST_TURNINGS = 60;
    private static final int MOST_SEED = 9999;
    private static final int MOST_PRINTED = 199;

    private static final int FIRST_SUCTION = 6;
    private static final int SINGLES_FOR_LESS = 5;
    private static final int NONE_WAS_PRINTED = 200;
    private static final int TEXT_FAULT = -100;

    private static final int GUTTER = 0;
    private static final int LEARNS = 1;
    private static final int OFFSET = 2;
    private static final int[] SETTING_AT_FIRST = {2, 0, 1};
    private static final int[] SETTING_AT_MOST = {10, 1, 99};

    private final State now;
    private final State trial;
    private final State snapshot;
    private final History history;
    private final BookText text;
    private final PageSet pageSet;
    private boolean hasSnapshot;

    public LeafTurner() {
        now = new State();
        trial = new State();
        snapshot = new State();
        history = new History();
        text = new BookText();
        pageSet = new PageSet();
        hasSnapshot = false;
    }

    // ---- books

    public int takeBook() {
        // Read aside first: a text with a fault must leave the book that lies there as it is.
        int fault = text.readInto(trial.book);
        if (fault != NONE) {
            return TEXT_FAULT - fault;
        }
        history.record(now);
        now.clearForBook();
        now.book.copyFrom(trial.book);
        return now.book.leaves;
    }

    public int layBook(int leaves, int seed) {
        if (leaves < 1 || leaves > MOST_LEAVES || seed < 0 || seed > MOST_SEED) {
            return BAD_VALUE;
        }
        history.record(now);
        now.clearForBook();
        return now.book.layBySeed(leaves, seed);
    }

    public int print(int page, int number) {
        if (!now.book.hasPage(page)) {
            return UNKNOWN;
        }
        if (number != NONE && (number < 0 || number > MOST_PRINTED)) {
            return BAD_VALUE;
        }
        int previous = now.book.printed.at(page);
        if (previous == number) {
            return NONE;
        }
        history.record(now);
        now.book.printed.put(page, number);
        return previous == NONE ? NONE_WAS_PRINTED : previous;
    }

    // ---- turning, pictures

    public int turn() {
        if (now.leavesOnRight() == 0) {
            return NOT_POSSIBLE;
        }
        history.record(now);
        return now.turnOnce();
    }

    public int turnBack() {
        if (now.left == 0) {
            return NOT_POSSIBLE;
        }
        history.record(now);
        now.left--;
        return now.left;
    }

    public int shoot() {
        if (!now.hasBook()) {
            return NOT_POSSIBLE;
        }
        if (!now.hasRoomForPair()) {
            return FULL;
        }
        history.record(now);
        return now.takePair();
    }

    public int scan(int times) {
        if (times < 1 || times > MOST_TURNINGS) {
            return BAD_VALUE;
        }
        if (!now.hasBook()) {
            return NOT_POSSIBLE;
        }
        // Whether the room is enough is only known when all turnings are made: so on a trial.
        trial.copyFrom(now);
        int taken = trial.takeAndTurn(times);
        if (taken == FULL) {
            return FULL;
        }
        history.record(now);
        now.copyFrom(trial);
        return taken;
    }

    public int throwAway(int picture) {
        if (!now.pictures.has(picture)) {
            return UNKNOWN;
        }
        history.record(now);
        now.pictures.removeAt(picture);
        return now.pictures.size;
    }

    public int setSuction(int suction) {
        if (!isSuction(suction)) {
            return BAD_VALUE;
        }
        int previous = now.suction;
        if (previous == suction) {
            return NONE;
        }
        history.record(now);
        now.suction = suction;
        return previous;
    }

    public int set(int which, int value) {
        if (which < 0 || which >= SETTING_AT_MOST.length) {
            return BAD_VALUE;
        }
        if (value < 0 || value > SETTING_AT_MOST[which]) {
            return BAD_VALUE;
        }
        int previous = now.settings.at(which);
        if (previous == value) {
            return NONE;
        }
        history.record(now);
        now.settings.put(which, value);
        return previous;
    }

    // ---- texts

    public int type(char character) {
        if (text.length >= MOST_CHARACTERS) {
            return FULL;
        }
        text.add(character);
        return text.length;
    }

    public int clearText() {
        int previous = text.length;
        text.length = 0;
        return previous;
    }

    // ---- history

    public int undo() {
        if (history.size == 0) {
            return NONE;
        }
        history.takeLatestInto(now);
        return history.size;
    }

    public int keep() {
        snapshot.copyFrom(now);
        hasSnapshot = true;
        return now.pictures.size;
    }

    public int restore() {
        if (!hasSnapshot) {
            return NONE;
        }
        history.record(now);
        now.copyFrom(snapshot);
        return now.pictures.size;
    }

    // ---- what is told

    public int leaf(int leaf, int what) {
        if (leaf < 0 || leaf >= now.book.leaves) {
            return UNKNOWN;
        }
        switch (what) {
            case 0:
                return now.book.weights.at(leaf);
            case 1:
                return now.book.strengths.at(leaf);
            case 2:
                return asNumber(leaf < now.left);
            default:
                return BAD_VALUE;
        }
    }

    public int page(int page, int what) {
        if (!now.book.hasPage(page)) {
            return UNKNOWN;
        }
        switch (what) {
            case 0:
                return now.book.printed.at(page);
            case 1:
                pageSet.makeFor(now);
                return pageSet.chosen.at(page);
            case 2:
                return now.pictures.howManyShow(page);
            case 3:
                pageSet.makeFor(now);
                return asNumber(pageSet.isDoubtful(page, now.pictures));
            case 4:
                return asNumber(now.gutterIsGood(page));
            default:
                return BAD_VALUE;
        }
    }

    public int picture(int picture, int what) {
        Pictures kept = now.pictures;
        if (!kept.has(picture)) {
            return UNKNOWN;
        }
        switch (what) {
            case 0:
                return kept.pages.at(picture);
            case 1:
                return kept.numbers.at(picture);
            case 2:
                return asNumber(kept.isGood(picture));
            case 3:
                pageSet.makeFor(now);
                return pageSet.guesses.at(picture);
            case 4:
                pageSet.makeFor(now);
                return asNumber(pageSet.isSpare(picture));
            case 5:
                return asNumber(isRightPage(kept.pages.at(picture)));
            case 6:
                return kept.pairs.at(picture);
            default:
                return BAD_VALUE;
        }
    }

    public int open(int side) {
        if (side == 0) {
            return now.openOnLeft();
        }
        if (side == 1) {
            return now.openOnRight();
        }
        return BAD_VALUE;
    }

    public int would(int suction) {
        if (!isSuction(suction)) {
            return BAD_VALUE;
        }
        if (now.leavesOnRight() == 0) {
            return NOT_POSSIBLE;
        }
        return now.liftedBy(suction);
    }

    public int best() {
        if (now.leavesOnRight() == 0) {
            return NOT_POSSIBLE;
        }
        for (int suction = 1; suction <= MOST_SUCTION; suction++) {
            if (now.liftedBy(suction) == 1) {
                return suction;
            }
        }
        return NONE;
    }

    public int lacking(int rank) {
        if (rank < 0) {
            return BAD_VALUE;
        }
        pageSet.makeFor(now);
        return pageSet.lackingAt(rank);
    }

    public int count(int what) {
        switch (what) {
            case 0:
                return now.book.leaves;
            case 1:
                return now.left;
            case 2:
                return now.pictures.size;
            case 3:
            case 4:
            case 5:
            case 6:
                return countInSet(what);
            case 7:
                return now.turnings;
            case 8:
                return now.turningsOfMore;
            case 9:
                return now.turningsOfNone;
            case 10:
                return now.suction;
            case 11:
                return now.settings.at(GUTTER);
            case 12:
                return now.settings.at(LEARNS);
            case 13:
                return now.settings.at(OFFSET);
            case 14:
                return now.pairs;
            case 15:
                return history.size;
            case 16:
                return text.length;
            default:
                return BAD_VALUE;
        }
    }

    private int countInSet(int what) {
        pageSet.makeFor(now);
        switch (what) {
            case 3:
                return pageSet.howManyLack();
            case 4:
                return pageSet.howManyDoubtful(now.pictures);
            case 5:
                return pageSet.howManySpare();
            case 6:
                return pageSet.howManyNotGuessed();
            default:
                return BAD_VALUE;
        }
    }

    private static boolean isSuction(int suction) {
        return suction >= 1 && suction <= MOST_SUCTION;
    }

    private static boolean isRightPage(int page) {
        return page % 2 == 0;
    }

    private static int asNumber(boolean truth) {
        return truth ? 1 : 0;
    }

    /** A row of numbers whose length is fixed; every index is looked at here before it is used. */
    private static final class Numbers {
        private final int[] cells;

        Numbers(int length) {
            cells = new int[Math.max(length, 0)];
        }

        boolean has(int index) {
            return index >= 0 && index < cells.length;
        }

        int at(int index) {
            return has(index) ? cells[index] : NONE;
        }

        void put(int index, int value) {
            if (has(index)) {
                cells[index] = value;
            }
        }

        void putAll(int value) {
            Arrays.fill(cells, value);
        }

        void removeAt(int index) {
            if (has(index)) {
                System.arraycopy(cells, index + 1, cells, index, cells.length - 1 - index);
            }
        }

        void copyFrom(Numbers other) {
            System.arraycopy(other.cells, 0, cells, 0, Math.min(other.cells.length, cells.length));
        }
    }

    /** The leaves of a book with what is printed on their pages. */
    private static final class Book {
        private final Numbers weights;
        private final Numbers strengths;
        private final Numbers printed;
        private int leaves;

        Book() {
            weights = new Numbers(MOST_LEAVES);
            strengths = new Numbers(MOST_LEAVES);
            printed = new Numbers(MOST_PAGES);
            leaves = 0;
        }

        int pages() {
            return 2 * leaves;
        }

        boolean hasPage(int page) {
            return page >= 0 && page < pages();
        }

        void addLeaf(int weight, int strength) {
            if (leaves >= MOST_LEAVES) {
                return;
            }
            int front = 2 * leaves;
            weights.put(leaves, weight);
            strengths.put(leaves, strength);
            leaves++;
            printed.put(front, front + 1);
            printed.put(front + 1, front + 2);
        }

        void printNothingOnLast() {
            printed.put(pages() - 2, NONE);
            printed.put(pages() - 1, NONE);
        }

        void printTooMuchOnLast() {
            printed.put(pages() - 2, pages() + 1);
            printed.put(pages() - 1, pages() + 2);
        }

        int layBySeed(int howMany, int seed) {
            leaves = 0;
            int next = seed;
            int weightOfAll = 0;
            for (int i = 0; i < howMany; i++) {
                next = (421 * next + 1663) % 10000;
                int weight = 1 + next % 5;
                int strength = next / 10 % 10;
                addLeaf(weight, strength < 6 ? 0 : strength);
                if (next / 100 % 8 == 0) {
                    printNothingOnLast();
                }
                weightOfAll += weight;
            }
            return weightOfAll;
        }

        void copyFrom(Book other) {
            weights.copyFrom(other.weights);
            strengths.copyFrom(other.strengths);
            printed.copyFrom(other.printed);
            leaves = other.leaves;
        }
    }

    /** The row of pictures; each keeps what was so when it was taken. */
    private static final class Pictures {
        private final Numbers pages;
        private final Numbers numbers;
        private final Numbers gutters;
        private final Numbers pairs;
        private int size;

        Pictures() {
            pages = new Numbers(MOST_PICTURES);
            numbers = new Numbers(MOST_PICTURES);
            gutters = new Numbers(MOST_PICTURES);
            pairs = new Numbers(MOST_PICTURES);
            size = 0;
        }

        boolean has(int picture) {
            return picture >= 0 && picture < size;
        }

        boolean isGood(int picture) {
            return gutters.at(picture) == 1;
        }

        void add(int page, int number, boolean good, int pair) {
            if (size >= MOST_PICTURES) {
                return;
            }
            pages.put(size, page);
            numbers.put(size, number);
            gutters.put(size, asNumber(good));
            pairs.put(size, pair);
            size++;
        }

        void removeAt(int picture) {
            if (!has(picture)) {
                return;
            }
            pages.removeAt(picture);
            numbers.removeAt(picture);
            gutters.removeAt(picture);
            pairs.removeAt(picture);
            size--;
        }

        int howManyShow(int page) {
            int found = 0;
            for (int i = 0; i < size; i++) {
                if (pages.at(i) == page) {
                    found++;
                }
            }
            return found;
        }

        void copyFrom(Pictures other) {
            pages.copyFrom(other.pages);
            numbers.copyFrom(other.numbers);
            gutters.copyFrom(other.gutters);
            pairs.copyFrom(other.pairs);
            size = other.size;
        }
    }

    /** All that undo and the snapshot bring back. */
    private static final class State {
        private final Book book;
        private final Pictures pictures;
        private final Numbers settings;
        private int left;
        private int suction;
        private int turnings;
        private int turningsOfMore;
        private int turningsOfNone;
        private int singlesInRow;
        private int pairs;

        State() {
            book = new Book();
            pictures = new Pictures();
            settings = new Numbers(SETTING_AT_FIRST.length);
            for (int i = 0; i < SETTING_AT_FIRST.length; i++) {
                settings.put(i, SETTING_AT_FIRST[i]);
            }
            suction = FIRST_SUCTION;
        }

        void copyFrom(State other) {
            book.copyFrom(other.book);
            pictures.copyFrom(other.pictures);
            settings.copyFrom(other.settings);
            left = other.left;
            suction = other.suction;
            turnings = other.turnings;
            turningsOfMore = other.turningsOfMore;
            turningsOfNone = other.turningsOfNone;
            singlesInRow = other.singlesInRow;
            pairs = other.pairs;
        }

        /** The suction and the settings belong to the scanner: they stay from book to book. */
        void clearForBook() {
            pictures.size = 0;
            left = 0;
            turnings = 0;
            turningsOfMore = 0;
            turningsOfNone = 0;
            singlesInRow = 0;
            pairs = 0;
        }

        boolean hasBook() {
            return book.leaves > 0;
        }

        int leavesOnRight() {
            return book.leaves - left;
        }

        int openOnLeft() {
            return left > 0 ? 2 * left - 1 : NONE;
        }

        int openOnRight() {
            return leavesOnRight() > 0 ? 2 * left : NONE;
        }

        int liftedBy(int suctionNow) {
            int lifted = 0;
            int weight = 0;
            for (int leaf = left; leaf < book.leaves; leaf++) {
                int together = weight + book.weights.at(leaf);
                if (suctionNow < together) {
                    return lifted;
                }
                if (lifted > 0 && suctionNow - weight >= book.strengths.at(leaf - 1)) {
                    return lifted;
                }
                weight = together;
                lifted++;
            }
            return lifted;
        }

        int turnOnce() {
            int turned = liftedBy(suction);
            left += turned;
            turnings++;
            if (turned == 0) {
                turningsOfNone++;
            }
            if (turned > 1) {
                turningsOfMore++;
            }
            learnFrom(turned);
            return turned;
        }

        private void learnFrom(int turned) {
            int more = turned == 0 ? 2 : 1;
            if (turned == 1) {
                more = 0;
                singlesInRow++;
                if (singlesInRow == SINGLES_FOR_LESS) {
                    more = -1;
                    singlesInRow = 0;
                }
            } else {
                singlesInRow = 0;
            }
            if (settings.at(LEARNS) == 1) {
                suction = Math.max(1, Math.min(MOST_SUCTION, suction + more));
            }
        }

        /** Of the page as it lies open, which tells how many leaves are on its side then. */
        boolean gutterIsGood(int page) {
            int leaf = page / 2;
            int onItsSide = isRightPage(page) ? book.leaves - leaf : leaf + 1;
            int least = settings.at(GUTTER);
            return onItsSide >= least || book.leaves < 2 * least;
        }

        int pagesOpen() {
            return asNumber(openOnLeft() != NONE) + asNumber(openOnRight() != NONE);
        }

        boolean hasRoomForPair() {
            return pictures.size + pagesOpen() <= MOST_PICTURES;
        }

        int takePair() {
            int taken = pagesOpen();
            if (openOnLeft() != NONE) {
                takePicture(openOnLeft());
            }
            if (openOnRight() != NONE) {
                takePicture(openOnRight());
            }
            pairs++;
            return taken;
        }

        private void takePicture(int page) {
            boolean good = gutterIsGood(page);
            int number = book.printed.at(page);
            if (!good && number != NONE) {
                number = number / 10;
            }
            pictures.add(page, number, good, pairs);
        }

        /** Gives FULL, and is of no more use then, if the pictures have no room. */
        int takeAndTurn(int times) {
            int taken = 0;
            for (int i = 0; i < times && leavesOnRight() > 0; i++) {
                if (!hasRoomForPair()) {
                    return FULL;
                }
                taken += takePair();
                turnOnce();
            }
            if (leavesOnRight() > 0) {
                return taken;
            }
            if (!hasRoomForPair()) {
                return FULL;
            }
            return taken + takePair();
        }
    }

    /** The latest states, the oldest ahead; one that is dropped gives its room to the new one. */
    private static final class History {
        private final State[] states;
        private int size;

        History() {
            states = new State[MOST_STATES];
            for (int i = 0; i < states.length; i++) {
                states[i] = new State();
            }
            size = 0;
        }

        void record(State state) {
            if (size >= states.length) {
                dropOldest();
            }
            if (size < 0 || size >= states.length || states[size] == null) {
                return;
            }
            states[size].copyFrom(state);
            size++;
        }

        void takeLatestInto(State state) {
            int latest = size - 1;
            if (latest < 0 || latest >= states.length || states[latest] == null) {
                return;
            }
            state.copyFrom(states[latest]);
            size = latest;
        }

        private void dropOldest() {
            if (states.length == 0) {
                return;
            }
            State oldest = states[0];
            for (int i = 1; i < states.length; i++) {
                states[i - 1] = states[i];
            }
            states[states.length - 1] = oldest;
            size = states.length - 1;
        }
    }

    /** The text, and how a book is read from it. */
    private static final class BookText {
        private final char[] signs;
        private int length;

        BookText() {
            signs = new char[MOST_CHARACTERS];
            length = 0;
        }

        void add(char sign) {
            if (length >= 0 && length < signs.length) {
                signs[length] = sign;
                length++;
            }
        }

        /** Gives the fault, or NONE; with a fault what the book holds is of no use. */
        int readInto(Book book) {
            book.leaves = 0;
            int at = 0;
            for (int leaf = 0; leaf < MOST_LEAVES; leaf++) {
                if (!isDigit(at)) {
                    return at;
                }
                int weight = digit(at);
                int strength = 0;
                at++;
                if (is(at, 's')) {
                    at++;
                    if (!isDigit(at)) {
                        return at;
                    }
                    strength = digit(at);
                    at++;
                }
                book.addLeaf(weight, strength);
                at += readMark(at, book);
                if (at == length) {
                    return NONE;
                }
                // A comma behind the last leaf that a book may have is not allowed at its place.
                if (!is(at, ',') || leaf == MOST_LEAVES - 1) {
                    return at;
                }
                at++;
            }
            return at;
        }

        private int readMark(int at, Book book) {
            if (is(at, '*')) {
                book.printNothingOnLast();
                return 1;
            }
            if (is(at, '!')) {
                book.printTooMuchOnLast();
                return 1;
            }
            return 0;
        }

        private boolean has(int at) {
            return at >= 0 && at < length && at < signs.length;
        }

        private boolean is(int at, char sign) {
            return has(at) && signs[at] == sign;
        }

        private boolean isDigit(int at) {
            return has(at) && signs[at] >= '1' && signs[at] <= '9';
        }

        private int digit(int at) {
            return has(at) ? signs[at] - '0' : 0;
        }
    }

    /** What the reader makes of the pictures of a state; made anew for each question. */
    private static final class PageSet {
        private final Numbers guesses;
        private final Numbers chosen;
        private int pictures;
        private int pages;

        PageSet() {
            guesses = new Numbers(MOST_PICTURES);
            chosen = new Numbers(MOST_PAGES);
        }

        void makeFor(State state) {
            pictures = state.pictures.size;
            pages = state.book.pages();
            chosen.putAll(NONE);
            int ahead = NONE;
            for (int i = 0; i < pictures; i++) {
                int guess = guessOf(i, ahead, state);
                guesses.put(i, guess);
                if (guess != NONE) {
                    choose(i, guess, state.pictures);
                }
                ahead = guess;
            }
        }

        private int guessOf(int picture, int ahead, State state) {
            int number = state.pictures.numbers.at(picture);
            if (number != NONE && state.pictures.isGood(picture)) {
                int page = number - state.settings.at(OFFSET);
                if (state.book.hasPage(page)) {
                    return page;
                }
            }
            if (ahead != NONE && state.book.hasPage(ahead + 1)) {
                return ahead + 1;
            }
            return NONE;
        }

        private void choose(int picture, int guess, Pictures kept) {
            int held = chosen.at(guess);
            if (held == NONE || (!kept.isGood(held) && kept.isGood(picture))) {
                chosen.put(guess, picture);
            }
        }

        boolean isSpare(int picture) {
            int guess = guesses.at(picture);
            return guess == NONE || chosen.at(guess) != picture;
        }

        boolean isDoubtful(int page, Pictures kept) {
            int held = chosen.at(page);
            return held != NONE && kept.pages.at(held) != page;
        }

        int lackingAt(int rank) {
            int found = 0;
            for (int page = 0; page < pages; page++) {
                if (chosen.at(page) == NONE) {
                    if (found == rank) {
                        return page;
                    }
                    found++;
                }
            }
            return NONE;
        }

        int howManyLack() {
            int found = 0;
            for (int page = 0; page < pages; page++) {
                if (chosen.at(page) == NONE) {
                    found++;
                }
            }
            return found;
        }

        int howManyDoubtful(Pictures kept) {
            int found = 0;
            for (int page = 0; page < pages; page++) {
                if (isDoubtful(page, kept)) {
                    found++;
                }
            }
            return found;
        }

        int howManySpare() {
            int found = 0;
            for (int i = 0; i < pictures; i++) {
                if (isSpare(i)) {
                    found++;
                }
            }
            return found;
        }

        int howManyNotGuessed() {
            int found = 0;
            for (int i = 0; i < pictures; i++) {
                if (guesses.at(i) == NONE) {
                    found++;
                }
            }
            return found;
        }
    }
}
