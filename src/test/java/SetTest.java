/** Promises 18, 19, 23 and the counts 3 to 6: guesses, the set, doubtful, spare, lacking. */
public final class SetTest {
    private static final Check CHECK = new Check("SetTest");

    public static void main(String[] args) {
        guessesByNumberAndPlace();
        firstGuessNeedsNumber();
        guessGoesUpWithThePlace();
        numberOutsideTheBook();
        offsetCounts();
        numberOfBadGutterIsNoGuess();
        lastPageHasNoNext();
        firstPictureIsInTheSet();
        goodGutterIsInTheSet();
        doubtfulByWrongNumber();
        doubtfulByThrownAway();
        pagesThatShow();
        lackingRanks();
        eachQuestionAlone();
        placeUpToTheLastPage();
        firstPageIsDoubtful();
        thrownAwayIsForgotten();
        emptySet();
        pageWrongInputs();
        CHECK.end();
    }

    private static void guesses(Turner x, String when, int... due) {
        for (int i = 0; i < due.length; i++) {
            CHECK.due(when + ": picture(" + i + ", 3)", x.picture(i, 3), due[i]);
        }
        CHECK.due(when + ": pictures", x.count(2), due.length);
    }

    private static void inSet(Turner x, String when, int... due) {
        for (int i = 0; i < due.length; i++) {
            CHECK.due(when + ": page(" + i + ", 1)", x.page(i, 1), due[i]);
        }
    }

    private static void counts(Turner x, String when, int lack, int doubt, int spare, int not) {
        CHECK.due(when + ": lacking", x.count(3), lack);
        CHECK.due(when + ": doubtful", x.count(4), doubt);
        CHECK.due(when + ": spare", x.count(5), spare);
        CHECK.due(when + ": not guessed", x.count(6), not);
    }

    private static void guessesByNumberAndPlace() {
        Turner x = Check.withBook(Check.leaves(5));
        x.scan(60);
        guesses(x, "whole", 0, 1, 2, 3, 4, 5, 6, 7, 8, 9);
        inSet(x, "whole", 0, 1, 2, 3, 4, 5, 6, 7, 8, 9);
        counts(x, "whole", 0, 0, 0, 0);
        CHECK.due("lacking(0)", x.lacking(0), -5);
        for (int page = 0; page < 10; page++) {
            CHECK.due("page(" + page + ", 3)", x.page(page, 3), 0);
            CHECK.due("picture(" + page + ", 4)", x.picture(page, 4), 0);
        }
    }

    private static void firstGuessNeedsNumber() {
        Turner x = Check.withBook("1*,1*,1");
        x.scan(60);
        guesses(x, "bare", -5, -5, -5, -5, 4, 5);
        inSet(x, "bare", -5, -5, -5, -5, 4, 5);
        counts(x, "bare", 4, 0, 4, 4);
        for (int picture = 0; picture < 6; picture++) {
            CHECK.due("picture(" + picture + ", 4)", x.picture(picture, 4), picture < 4 ? 1 : 0);
        }
    }

    private static void guessGoesUpWithThePlace() {
        Turner x = Check.withBook("1,1*,1*,1*,1");
        x.scan(60);
        x.throwAway(1);
        guesses(x, "a gap is not known", 0, 1, 2, 3, 4, 5, 6, 7, 9);
        counts(x, "a gap is not known", 1, 7, 0, 0);
        CHECK.due("lacking(0)", x.lacking(0), 8);
        CHECK.due("page(0, 3)", x.page(0, 3), 0);
        CHECK.due("page(1, 3)", x.page(1, 3), 1);
        CHECK.due("page(8, 3)", x.page(8, 3), 0);
        CHECK.due("page(9, 3)", x.page(9, 3), 0);
    }

    private static void numberOutsideTheBook() {
        Turner x = Check.withBook("1,1");
        x.set(0, 0);
        x.shoot();
        int[] printed = {0, 5, 199, 4};
        int[] guess = {-5, -5, -5, 3};
        x.throwAway(0);
        for (int i = 0; i < printed.length; i++) {
            x.print(0, printed[i]);
            x.shoot();
            CHECK.due("guess of " + printed[i], x.picture(0, 3), guess[i]);
            x.throwAway(0);
        }
        x.print(0, 1);
        x.shoot();
        x.print(0, 0);
        x.shoot();
        x.print(0, 5);
        x.shoot();
        guesses(x, "then by the place", 0, 1, 2);
    }

    private static void offsetCounts() {
        Turner x = Check.withBook("1,1");
        x.scan(60);
        x.set(2, 0);
        guesses(x, "offset 0", 1, 2, 3, -5);
        inSet(x, "offset 0", -5, 0, 1, 2);
        counts(x, "offset 0", 1, 3, 1, 1);
        x.set(2, 2);
        guesses(x, "offset 2", -5, 0, 1, 2);
        x.set(2, 4);
        guesses(x, "offset 4", -5, -5, -5, 0);
        x.set(2, 99);
        guesses(x, "offset 99", -5, -5, -5, -5);
        counts(x, "offset 99", 4, 0, 4, 4);
        x.set(2, 1);
        guesses(x, "offset 1", 0, 1, 2, 3);
        x.print(0, 199);
        x.print(3, 100);
        x.takeBook();
        x.print(0, 101);
        x.set(2, 99);
        x.shoot();
        guesses(x, "offset 99, number 101", 2);
    }

    private static void numberOfBadGutterIsNoGuess() {
        Turner x = Check.withBook(Check.leaves(4));
        x.print(1, 30);
        x.turn();
        x.shoot();
        CHECK.due("3 is read", x.picture(0, 1), 3);
        guesses(x, "bad gutter ahead", -5, 2);
        x.throwAway(0);
        x.shoot();
        guesses(x, "bad gutter behind page 2", 2, 3, 2);
        counts(x, "bad gutter behind page 2", 6, 1, 1, 0);
    }

    private static void lastPageHasNoNext() {
        Turner x = Check.withBook("1*");
        x.scan(60);
        x.print(1, 2);
        x.shoot();
        x.print(1, -5);
        x.shoot();
        guesses(x, "behind the last page", -5, -5, 1, -5);
        counts(x, "behind the last page", 1, 0, 3, 3);
    }

    private static void firstPictureIsInTheSet() {
        Turner x = Check.withBook("1,1");
        x.shoot();
        x.shoot();
        x.turn();
        x.shoot();
        x.shoot();
        guesses(x, "doubles", 0, 0, 1, 2, 1, 2);
        inSet(x, "doubles", 0, 2, 3, -5);
        counts(x, "doubles", 1, 0, 3, 0);
        CHECK.due("picture(0, 4)", x.picture(0, 4), 0);
        CHECK.due("picture(1, 4)", x.picture(1, 4), 1);
        CHECK.due("picture(4, 4)", x.picture(4, 4), 1);
        x.throwAway(0);
        inSet(x, "the next double", 0, 1, 2, -5);
    }

    private static void goodGutterIsInTheSet() {
        Turner x = Check.withBook(Check.leaves(4));
        x.scan(1);
        x.shoot();
        guesses(x, "bad gutter", 0, 1, 2);
        inSet(x, "bad gutter", 0, 1, 2);
        x.shoot();
        inSet(x, "bad gutter twice", 0, 1, 2);
        guesses(x, "bad gutter twice", 0, 1, 2, 3, 2);
        x.set(0, 0);
        x.shoot();
        guesses(x, "good gutter", 0, 1, 2, 3, 2, 1, 2);
        inSet(x, "good gutter", 0, 5, 2, 3);
        CHECK.due("picture(1, 4)", x.picture(1, 4), 1);
        CHECK.due("picture(3, 4)", x.picture(3, 4), 0);
        CHECK.due("picture(5, 4)", x.picture(5, 4), 0);
        x.shoot();
        inSet(x, "the first good one", 0, 5, 2, 3);
        // By the place, too, a picture of a good gutter goes ahead of one of a bad gutter.
        x.print(2, -5);
        x.throwAway(6);
        x.throwAway(6);
        x.throwAway(6);
        x.shoot();
        guesses(x, "good by place", 0, 1, 2, 3, 2, 1, 1, 2);
        x.throwAway(2);
        x.throwAway(3);
        guesses(x, "good by place, thrown away", 0, 1, 2, 1, 1, 2);
        inSet(x, "good by place, thrown away", 0, 3, 5, -5);
    }

    private static void doubtfulByWrongNumber() {
        Turner x = Check.withBook("1,1!,1");
        x.scan(60);
        guesses(x, "wrong numbers", 0, 1, 4, 5, 4, 5);
        inSet(x, "wrong numbers", 0, 1, -5, -5, 2, 3);
        counts(x, "wrong numbers", 2, 2, 2, 0);
        CHECK.due("page(4, 3)", x.page(4, 3), 1);
        CHECK.due("page(5, 3)", x.page(5, 3), 1);
        CHECK.due("page(2, 3), which lacks", x.page(2, 3), 0);
        CHECK.due("picture(4, 4)", x.picture(4, 4), 1);
        CHECK.due("picture(4, 0)", x.picture(4, 0), 4);
    }

    private static void doubtfulByThrownAway() {
        Turner x = Check.withBook(Check.leaves(5));
        x.scan(60);
        x.throwAway(7);
        guesses(x, "page 7 thrown away", 0, 1, 2, 3, 4, 5, 6, 7, 9);
        CHECK.due("page(7, 1)", x.page(7, 1), 7);
        CHECK.due("page(7, 3)", x.page(7, 3), 1);
        CHECK.due("lacking(0)", x.lacking(0), 8);
        counts(x, "page 7 thrown away", 1, 1, 0, 0);
        x.throwAway(0);
        guesses(x, "page 0 thrown away", -5, 2, 3, 4, 5, 6, 7, 9);
        counts(x, "page 0 thrown away", 3, 1, 1, 1);
    }

    private static void pagesThatShow() {
        Turner x = Check.withBook("1*,1!");
        x.shoot();
        x.scan(60);
        x.shoot();
        x.shoot();
        int[] show = {2, 1, 1, 3};
        for (int page = 0; page < 4; page++) {
            CHECK.due("page(" + page + ", 2)", x.page(page, 2), show[page]);
        }
        x.throwAway(0);
        CHECK.due("page(0, 2)", x.page(0, 2), 1);
    }

    private static void lackingRanks() {
        Turner x = Check.withBook("1,1,1s9,1,1");
        x.scan(60);
        CHECK.due("two are turned, so two pages lack", x.count(3), 2);
        int[] due = {5, 6, -5, -5};
        for (int rank = 0; rank < due.length; rank++) {
            CHECK.due("lacking(" + rank + ")", x.lacking(rank), due[rank]);
        }
        CHECK.due("lacking(greatest)", x.lacking(Integer.MAX_VALUE), -5);
        CHECK.due("lacking(-1)", x.lacking(-1), -2);
        CHECK.due("lacking(least)", x.lacking(Integer.MIN_VALUE), -2);
        x.turnBack();
        x.turnBack();
        x.shoot();
        CHECK.due("page 6 is taken once more", x.count(3), 0);
    }

    private static Turner scanned() {
        Turner x = Check.withBook("1!,1,1*,1");
        x.scan(60);
        return x;
    }

    /** What one question made of the pictures must not be needed by the next one. */
    private static void eachQuestionAlone() {
        // The pictures of the pages 0 to 7 are guessed as 2 3 2 3 4 5 6 7; only the
        // gutter of the second one is bad.
        CHECK.due("page(4, 1)", scanned().page(4, 1), 4);
        CHECK.due("page(2, 3)", scanned().page(2, 3), 1);
        CHECK.due("page(4, 3)", scanned().page(4, 3), 0);
        CHECK.due("picture(3, 3)", scanned().picture(3, 3), 3);
        CHECK.due("picture(2, 4)", scanned().picture(2, 4), 1);
        CHECK.due("picture(3, 4)", scanned().picture(3, 4), 0);
        CHECK.due("lacking(1)", scanned().lacking(1), 1);
        CHECK.due("lacking(2)", scanned().lacking(2), -5);
        CHECK.due("count(3)", scanned().count(3), 2);
        CHECK.due("count(4)", scanned().count(4), 1);
        CHECK.due("count(5)", scanned().count(5), 2);
        CHECK.due("count(6)", scanned().count(6), 0);
    }

    private static void placeUpToTheLastPage() {
        Turner x = Check.withBook("1,1*");
        x.scan(60);
        x.shoot();
        guesses(x, "the last page by its place", 0, 1, 2, 3, -5);
        counts(x, "the last page by its place", 0, 0, 1, 1);
    }

    private static void firstPageIsDoubtful() {
        Turner x = Check.withBook("1,1");
        x.print(3, 1);
        x.scan(60);
        x.throwAway(0);
        guesses(x, "the first page doubtful", 1, 2, 0);
        CHECK.due("page(0, 3)", x.page(0, 3), 1);
        counts(x, "the first page doubtful", 1, 1, 0, 0);
    }

    private static void thrownAwayIsForgotten() {
        Turner x = Check.withBook("1*");
        for (int i = 1; i <= 80; i++) {
            x.shoot();
            if (i % 8 < 2) {
                counts(x, "not guessed " + i, 2, 0, i, i);
            }
        }
        for (int i = 79; i >= 0; i--) {
            x.throwAway(i);
            if (i % 8 < 2) {
                counts(x, "not guessed " + i, 2, 0, i, i);
            }
        }
    }

    private static void emptySet() {
        Turner x = new Turner();
        counts(x, "without a book", 0, 0, 0, 0);
        CHECK.due("lacking(0)", x.lacking(0), -5);
        CHECK.due("lacking(-1)", x.lacking(-1), -2);
        x.layBook(30, 0);
        counts(x, "without pictures", 60, 0, 0, 0);
        for (int page = 0; page < 60; page++) {
            CHECK.due("lacking(" + page + ")", x.lacking(page), page);
            CHECK.due("page(" + page + ", 1)", x.page(page, 1), -5);
            CHECK.due("page(" + page + ", 2)", x.page(page, 2), 0);
            CHECK.due("page(" + page + ", 3)", x.page(page, 3), 0);
        }
        CHECK.due("lacking(60)", x.lacking(60), -5);
    }

    private static void pageWrongInputs() {
        Turner x = Check.withBook("1,1");
        int[] wrong = {-1, 4, 60, Integer.MIN_VALUE, Integer.MAX_VALUE};
        for (int page : wrong) {
            CHECK.due("page(" + page + ", 0)", x.page(page, 0), -1);
            CHECK.due("page(" + page + ", 5)", x.page(page, 5), -1);
        }
        int[] wrongWhat = {-1, 5, Integer.MIN_VALUE, Integer.MAX_VALUE};
        for (int what : wrongWhat) {
            CHECK.due("page(0, " + what + ")", x.page(0, what), -2);
        }
        CHECK.due("nothing is recorded", x.count(15), 1);
    }
}
