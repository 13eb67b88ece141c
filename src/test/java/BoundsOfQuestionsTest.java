import java.io.IOException;

/** The boundary cases of the promises 12 to 24: texts, history, what is told. */
public final class BoundsOfQuestionsTest {
    private static final int[] FAR = {Integer.MIN_VALUE, Integer.MAX_VALUE};
    private static Sentences doc;

    public static void main(String[] args) throws IOException {
        doc = new Sentences("BoundsOfQuestionsTest", args);
        typeAnyCharacter();
        typeFull();
        clearTextAnswers();
        undoAnswers();
        keepAnswers();
        restoreAnswers();
        leafAnswers();
        pageRanges();
        pagePrinted();
        pageOfTheSet();
        pageInTruth();
        pageGutter();
        pictureRanges();
        pictureAnswers();
        picturePairs();
        openAnswers();
        wouldAnswers();
        bestAnswers();
        lackingAnswers();
        countRanges();
        countOfPictures();
        countOfTurnings();
        countOfPairs();
        countOfSettings();
        doc.end();
    }

    private static void typeAnyCharacter() {
        doc.says("Types a character behind the text. - `character`: any character");
        Turner x = new Turner();
        char[] any = {0, 1, '\n', ' ', '0', '1', 127, 128, 255, 256, 32767, 32768, 65535};
        for (int i = 0; i < any.length; i++) {
            doc.due("type(" + (int) any[i] + ")", x.type(any[i]), i + 1);
        }
        Check.type(x, "1,2");
        doc.due("type('s') behind it", x.type('s'), 4);
        doc.due("type('3') behind it", x.type('3'), 5);
        x.takeBook();
        doc.due("leaf(0, 0)", x.leaf(0, 0), 1);
        doc.due("leaf(1, 1)", x.leaf(1, 1), 3);
    }

    private static void typeFull() {
        doc.says("Returns the length of the text then; FULL if it has 60 characters.");
        Turner x = new Turner();
        for (int length = 1; length <= 60; length++) {
            doc.due("type() number " + length, x.type('1'), length);
        }
        doc.due("type() number 61", x.type('1'), -3);
        doc.due("count(16)", x.count(16), 60);
        x.clearText();
        doc.due("type() of the emptied text", x.type('1'), 1);
    }

    private static void clearTextAnswers() {
        doc.says("Empties the text. Returns the length that it had.");
        Turner x = new Turner();
        doc.due("clearText() of the empty one", x.clearText(), 0);
        x.type('1');
        doc.due("clearText() of one", x.clearText(), 1);
        doc.due("clearText() again", x.clearText(), 0);
        Check.type(x, Check.leaves(30) + "!");
        doc.due("clearText() of 60", x.clearText(), 60);
        doc.due("count(16)", x.count(16), 0);
    }

    private static void undoAnswers() {
        doc.says("Returns the number of states that are left; NONE if the history is empty.");
        Turner x = new Turner();
        doc.due("undo() at first", x.undo(), -5);
        x.layBook(1, 1);
        doc.due("undo() of one", x.undo(), 0);
        doc.due("undo() of none", x.undo(), -5);
        for (int i = 0; i < 6; i++) {
            x.layBook(1, 1);
        }
        for (int left = 3; left >= 0; left--) {
            doc.due("undo()", x.undo(), left);
        }
        doc.due("undo() of none", x.undo(), -5);
    }

    private static void keepAnswers() {
        doc.says("Takes a snapshot of the state, in place of the one that was. Returns how many "
            + "pictures are kept.");
        Turner x = new Turner();
        doc.due("keep() without a book", x.keep(), 0);
        x.layBook(1, 1);
        x.shoot();
        doc.due("keep() of one picture", x.keep(), 1);
        for (int i = 0; i < 79; i++) {
            x.shoot();
        }
        doc.due("keep() of 80 pictures", x.keep(), 80);
        x.throwAway(0);
        doc.due("restore() of the last snapshot", x.restore(), 80);
        doc.due("picture(79, 6)", x.picture(79, 6), 79);
    }

    private static void restoreAnswers() {
        doc.says("Restores the state of the snapshot, which stays. This is an act. Returns how many "
            + "pictures are kept then; NONE if there is no snapshot.");
        Turner x = new Turner();
        doc.due("restore() at first", x.restore(), -5);
        doc.due("count(15)", x.count(15), 0);
        x.keep();
        doc.due("restore() of the same state", x.restore(), 0);
        doc.due("count(15)", x.count(15), 1);
        x.layBook(2, 1);
        x.shoot();
        doc.due("restore() of no pictures", x.restore(), 0);
        doc.due("count(0)", x.count(0), 0);
        doc.due("undo()", x.undo(), 3);
        doc.due("count(2)", x.count(2), 1);
        x.keep();
        x.takeBook();
        x.layBook(3, 1);
        doc.due("restore() of one picture", x.restore(), 1);
        doc.due("restore() again", x.restore(), 1);
        doc.due("count(15)", x.count(15), 4);
    }

    private static void leafAnswers() {
        doc.says("- `leaf`: a leaf - `what`: 0 for its weight, 1 for its strength, 2 for whether it "
            + "was turned (1, otherwise 0)");
        Turner x = Check.withBook("4s3,9");
        x.turn();
        int[][] told = {{4, 3, 1}, {9, 0, 0}};
        for (int leaf = 0; leaf < 2; leaf++) {
            for (int what = 0; what <= 2; what++) {
                doc.due("leaf(" + leaf + ", " + what + ")", x.leaf(leaf, what), told[leaf][what]);
            }
            doc.due("leaf(" + leaf + ", -1)", x.leaf(leaf, -1), -2);
            doc.due("leaf(" + leaf + ", 3)", x.leaf(leaf, 3), -2);
        }
        for (int what = 0; what <= 2; what++) {
            doc.due("leaf(-1, " + what + ")", x.leaf(-1, what), -1);
            doc.due("leaf(2, " + what + ")", x.leaf(2, what), -1);
        }
        for (int far : FAR) {
            doc.due("leaf(" + far + ", 0)", x.leaf(far, 0), -1);
            doc.due("leaf(0, " + far + ")", x.leaf(0, far), -2);
        }
    }

    private static void pageRanges() {
        doc.says("- `page`: a page - `what`: 0 for its printed number (NONE without one)");
        Turner x = Check.withBook("1,1");
        for (int what = 0; what <= 4; what++) {
            doc.due("page(-1, " + what + ")", x.page(-1, what), -1);
            doc.due("page(4, " + what + ")", x.page(4, what), -1);
        }
        doc.due("page(0, -1)", x.page(0, -1), -2);
        doc.due("page(0, 5)", x.page(0, 5), -2);
        doc.due("page(3, 5)", x.page(3, 5), -2);
        for (int far : FAR) {
            doc.due("page(" + far + ", 0)", x.page(far, 0), -1);
            doc.due("page(0, " + far + ")", x.page(0, far), -2);
        }
    }

    private static void pagePrinted() {
        doc.says("0 for its printed number (NONE without one)");
        Turner x = Check.withBook("1,1*,1!");
        int[] printed = {1, 2, -5, -5, 7, 8};
        for (int page = 0; page < printed.length; page++) {
            doc.due("page(" + page + ", 0)", x.page(page, 0), printed[page]);
        }
        x.print(0, -5);
        x.print(2, 0);
        doc.due("page(0, 0)", x.page(0, 0), -5);
        doc.due("page(2, 0)", x.page(2, 0), 0);
    }

    private static void pageOfTheSet() {
        doc.says("1 for the picture of the set (NONE without one)");
        Turner x = Check.withBook(Check.leaves(30));
        doc.due("page(0, 1) of no pictures", x.page(0, 1), -5);
        x.scan(60);
        doc.due("page(0, 1)", x.page(0, 1), 0);
        doc.due("page(59, 1)", x.page(59, 1), 59);
        x.throwAway(59);
        doc.due("page(59, 1) without its picture", x.page(59, 1), -5);
    }

    private static void pageInTruth() {
        doc.says("2 for how many pictures show it in truth, 3 for whether it is doubtful (1, "
            + "otherwise 0)");
        Turner x = Check.withBook("1!");
        doc.due("page(0, 2) of no pictures", x.page(0, 2), 0);
        doc.due("page(0, 3) of no pictures", x.page(0, 3), 0);
        for (int i = 0; i < 80; i++) {
            x.shoot();
        }
        doc.due("page(0, 2) of 80 pictures", x.page(0, 2), 80);
        doc.due("page(1, 2) of none", x.page(1, 2), 0);
        x = Check.withBook("1");
        x.print(0, 2);
        x.shoot();
        doc.due("page(0, 2), which is guessed as another", x.page(0, 2), 1);
        doc.due("page(0, 3), without a picture of the set", x.page(0, 3), 0);
        doc.due("page(1, 2), as which another is guessed", x.page(1, 2), 0);
        doc.due("page(1, 3)", x.page(1, 3), 1);
        x.turn();
        x.shoot();
        doc.due("page(1, 2)", x.page(1, 2), 1);
        doc.due("page(1, 3), its first picture is another still", x.page(1, 3), 1);
        x.throwAway(0);
        doc.due("page(1, 3) with its own picture alone", x.page(1, 3), 0);
    }

    private static void pageGutter() {
        doc.says("4 for whether its gutter would be good if it lay open (1, otherwise 0)");
        Turner x = Check.withBook(Check.leaves(4));
        int[] good = {1, 0, 1, 1, 1, 1, 0, 1};
        for (int turned = 0; turned <= 4; turned++) {
            for (int page = 0; page < good.length; page++) {
                doc.due("page(" + page + ", 4) with " + turned + " turned", x.page(page, 4),
                    good[page]);
            }
            x.turn();
        }
        x.set(0, 3);
        doc.due("page(1, 4) by another setting", x.page(1, 4), 1);
    }

    private static void pictureRanges() {
        doc.says("- `picture`: a picture - `what`: 0 for the page that it shows in truth");
        Turner x = Check.withBook("1,1");
        x.scan(60);
        for (int what = 0; what <= 6; what++) {
            doc.due("picture(-1, " + what + ")", x.picture(-1, what), -1);
            doc.due("picture(4, " + what + ")", x.picture(4, what), -1);
        }
        doc.due("picture(0, -1)", x.picture(0, -1), -2);
        doc.due("picture(0, 7)", x.picture(0, 7), -2);
        doc.due("picture(3, 7)", x.picture(3, 7), -2);
        for (int far : FAR) {
            doc.due("picture(" + far + ", 0)", x.picture(far, 0), -1);
            doc.due("picture(0, " + far + ")", x.picture(0, far), -2);
        }
        x.throwAway(3);
        doc.due("picture(3, 0) thrown away", x.picture(3, 0), -1);
        x.takeBook();
        doc.due("picture(0, 0) of an earlier book", x.picture(0, 0), -1);
    }

    private static void pictureAnswers() {
        doc.says("1 for the number that is read (NONE without one), 2 for whether its gutter is "
            + "good, 3 for its guess (NONE without one), 4 for whether it is spare, 5 for whether it "
            + "was taken of the right side (2, 4, 5: 1, otherwise 0)");
        Turner x = Check.withBook("1*,1,1,1");
        x.shoot();
        x.turn();
        x.print(1, 12);
        x.shoot();
        x.shoot();
        // Of page 0 nothing is read; page 1 has a bad gutter, and is guessed by its place.
        int[][] told = {{0, -5, 1, -5, 1, 1, 0}, {1, 1, 0, -5, 1, 0, 1}, {2, 3, 1, 2, 0, 1, 1},
            {1, 1, 0, 3, 0, 0, 2}, {2, 3, 1, 2, 1, 1, 2}};
        for (int picture = 0; picture < told.length; picture++) {
            for (int what = 0; what <= 6; what++) {
                doc.due("picture(" + picture + ", " + what + ")", x.picture(picture, what),
                    told[picture][what]);
            }
        }
    }

    private static void picturePairs() {
        doc.says("6 for the number of its pair (from 0, as they were taken of this book, also if "
            + "pictures were thrown away)");
        Turner x = Check.withBook("1,1");
        x.scan(60);
        x.throwAway(0);
        x.throwAway(0);
        x.throwAway(0);
        doc.due("picture(0, 6)", x.picture(0, 6), 2);
        x.throwAway(0);
        x.shoot();
        doc.due("picture(0, 6) behind all that were thrown away", x.picture(0, 6), 3);
        x.takeBook();
        x.shoot();
        doc.due("picture(0, 6) of the next book", x.picture(0, 6), 0);
        x.layBook(1, 1);
        x.shoot();
        doc.due("picture(0, 6) of a book that was laid", x.picture(0, 6), 0);
    }

    private static void openAnswers() {
        doc.says("- `side`: 0 for the left, 1 for the right Returns the page that lies open there; "
            + "BAD_VALUE; NONE if there is none.");
        Turner x = Check.withBook("1");
        int[] wrong = {-1, 2, FAR[0], FAR[1]};
        for (int side : wrong) {
            doc.due("open(" + side + ")", x.open(side), -2);
            doc.due("open(" + side + ") without a book", new Turner().open(side), -2);
        }
        doc.due("open(0) at first", x.open(0), -5);
        doc.due("open(1) at first", x.open(1), 0);
        x.turn();
        doc.due("open(0) at the end", x.open(0), 1);
        doc.due("open(1) at the end", x.open(1), -5);
        x.turnBack();
        doc.due("open(0) turned back", x.open(0), -5);
        doc.due("open(1) turned back", x.open(1), 0);
        x = Check.withBook(Check.leaves(30));
        x.scan(60);
        doc.due("open(0) of the greatest book", x.open(0), 59);
        x.turnBack();
        doc.due("open(1) of the greatest book", x.open(1), 58);
    }

    private static void wouldAnswers() {
        doc.says("Tells how many leaves would be turned now with another suction. - `suction`: 1 to "
            + "20 Returns how many; BAD_VALUE; NOT_POSSIBLE if no leaf is on the right.");
        Turner x = Check.withBook("9s9,8s9,1");
        int[] wrong = {0, -1, 21, FAR[0], FAR[1]};
        for (int suction : wrong) {
            doc.due("would(" + suction + ")", x.would(suction), -2);
            doc.due("would(" + suction + ") without a book", new Turner().would(suction), -2);
        }
        doc.due("would(1)", x.would(1), 0);
        doc.due("would(8)", x.would(8), 0);
        doc.due("would(9)", x.would(9), 1);
        doc.due("would(16)", x.would(16), 1);
        doc.due("would(17), just enough for both", x.would(17), 2);
        doc.due("would(18), by which they part", x.would(18), 1);
        doc.due("would(20)", x.would(20), 1);
        doc.due("would(6), the suction that is set", x.would(6), 0);
        doc.due("count(7), nothing was turned", x.count(7), 0);
        doc.due("count(10)", x.count(10), 6);
        x.setSuction(17);
        x.turn();
        doc.due("would(1) of the last leaf", x.would(1), 1);
        x.turn();
        doc.due("would(1) with none on the right", x.would(1), -4);
        doc.due("would(20) with none on the right", x.would(20), -4);
        doc.due("would(0) with none on the right", x.would(0), -2);
        doc.due("would(1) without a book", new Turner().would(1), -4);
    }

    private static void bestAnswers() {
        doc.says("Tells the least suction with which just one leaf would be turned now.");
        for (int weight = 1; weight <= 9; weight++) {
            for (int strength = 1; strength <= 9; strength++) {
                // One less turns none, and what is just enough for one is too little for two.
                Turner x = Check.withBook(weight + "s" + strength + ",1");
                doc.due("best() of " + weight + "s" + strength, x.best(), weight);
            }
        }
        doc.says("Returns the suction; NOT_POSSIBLE if no leaf is on the right; NONE if there is "
            + "none up to 20.");
        doc.due("best() without a book", new Turner().best(), -4);
        Turner x = Check.withBook("1,9,3");
        doc.due("best() of the first", x.best(), 1);
        x.turn();
        doc.due("best() of the second, more than is set", x.best(), 9);
        x.setSuction(20);
        doc.due("best() of the second, less than is set", x.best(), 9);
        x.turn();
        doc.due("best() of the last", x.best(), 3);
        x.turn();
        doc.due("best() with none on the right", x.best(), -4);
        x.turnBack();
        doc.due("best() turned back", x.best(), 3);
    }

    private static void lackingAnswers() {
        doc.says("Tells the pages that the set lacks. - `rank`: a rank, from 0 Returns the page; "
            + "BAD_VALUE if rank is negative; NONE if there are not so many.");
        Turner x = new Turner();
        doc.due("lacking(0) without a book", x.lacking(0), -5);
        doc.due("lacking(-1) without a book", x.lacking(-1), -2);
        x.layBook(30, 0);
        doc.due("lacking(0) of all", x.lacking(0), 0);
        doc.due("lacking(59) of all", x.lacking(59), 59);
        doc.due("lacking(60) of all", x.lacking(60), -5);
        doc.due("lacking(-1)", x.lacking(-1), -2);
        doc.due("lacking(least)", x.lacking(FAR[0]), -2);
        doc.due("lacking(greatest)", x.lacking(FAR[1]), -5);
        x = Check.withBook("1,1,1");
        x.scan(60);
        doc.due("lacking(0) of none", x.lacking(0), -5);
        x.throwAway(5);
        doc.due("lacking(0) of the last", x.lacking(0), 5);
        doc.due("lacking(1) of the last", x.lacking(1), -5);
        x.throwAway(2);
        x.throwAway(0);
        int[] lacks = {0, 2, 5, -5};
        for (int rank = 0; rank < lacks.length; rank++) {
            doc.due("lacking(" + rank + ") of three", x.lacking(rank), lacks[rank]);
        }
    }

    private static void countRanges() {
        doc.says("15 for the states in the history, 16 for the length of the text Returns the "
            + "number; BAD_VALUE.");
        Turner x = Check.withBook("1,1");
        int[] wrong = {-1, 17, FAR[0], FAR[1]};
        for (int what : wrong) {
            doc.due("count(" + what + ")", x.count(what), -2);
            doc.due("count(" + what + ") without a book", new Turner().count(what), -2);
        }
        doc.due("count(15)", x.count(15), 1);
        doc.due("count(16)", x.count(16), 3);
        x.undo();
        doc.due("count(15) of none", x.count(15), 0);
        doc.due("count(16), which is not undone", x.count(16), 3);
    }

    private static void counts(Turner x, int first, int... due) {
        for (int i = 0; i < due.length; i++) {
            doc.due("count(" + (first + i) + ")", x.count(first + i), due[i]);
        }
    }

    private static void countOfPictures() {
        doc.says("0 for the leaves, 1 for those on the left, 2 for the pictures, 3 for pages that "
            + "the set lacks, 4 for doubtful pages, 5 for spare pictures, 6 for pictures that are "
            + "not guessed");
        Turner x = new Turner();
        counts(x, 0, 0, 0, 0, 0, 0, 0, 0);
        x.layBook(30, 5697);
        counts(x, 0, 30, 0, 0, 60, 0, 0, 0);
        x = Check.withBook(Check.leaves(30));
        x.scan(60);
        counts(x, 0, 30, 30, 60, 0, 0, 0, 0);
        for (int i = 0; i < 20; i++) {
            x.shoot();
        }
        counts(x, 0, 30, 30, 80, 0, 0, 20, 0);
        x.set(2, 0);
        counts(x, 0, 30, 30, 80, 1, 59, 21, 21);
        x.set(2, 99);
        counts(x, 0, 30, 30, 80, 60, 0, 80, 80);
    }

    private static void countOfTurnings() {
        doc.says("7 for turnings so far (with those of none), 8 for turnings of two or more, 9 for "
            + "turnings of none (7 to 9 and 14: of this book)");
        Turner x = Check.withBook("1s9,1s9,1,1,9");
        x.turn();
        counts(x, 7, 1, 1, 0);
        x.turnBack();
        x.turn();
        counts(x, 7, 2, 1, 0);
        x.turn();
        x.turn();
        x.turn();
        counts(x, 7, 5, 1, 2);
        x.undo();
        counts(x, 7, 4, 1, 1);
        x.would(9);
        x.best();
        counts(x, 7, 4, 1, 1);
        x.takeBook();
        counts(x, 7, 0, 0, 0);
        x.undo();
        counts(x, 7, 4, 1, 1);
        x.layBook(1, 1);
        counts(x, 7, 0, 0, 0);
        // Two of two, for a turning of just two is one of two or more.
        x = Check.withBook("1s9,1,1s9,1");
        x.scan(60);
        counts(x, 7, 2, 2, 0);
    }

    private static void countOfPairs() {
        doc.says("14 for pairs so far");
        Turner x = Check.withBook("1,1");
        x.scan(60);
        doc.due("count(14)", x.count(14), 3);
        x.throwAway(0);
        x.throwAway(0);
        doc.due("count(14), also if pictures were thrown away", x.count(14), 3);
        x.shoot();
        doc.due("count(14)", x.count(14), 4);
        x.undo();
        doc.due("count(14), undone", x.count(14), 3);
        x.layBook(1, 1);
        doc.due("count(14) of a new book", x.count(14), 0);
    }

    private static void countOfSettings() {
        doc.says("10 for the suction, 11 to 13 for the settings 0 to 2");
        Turner x = new Turner();
        counts(x, 10, 6, 2, 0, 1);
        x.setSuction(20);
        x.set(0, 10);
        x.set(1, 1);
        x.set(2, 99);
        counts(x, 10, 20, 10, 1, 99);
        x.layBook(1, 1);
        counts(x, 10, 20, 10, 1, 99);
        x.turn();
        doc.due("count(10) behind a single turning", x.count(10), 20);
    }
}
