import java.io.IOException;

/** The boundary cases of the terms: pictures, the set. */
public final class BoundsOfPicturesTest {
    private static Sentences doc;

    public static void main(String[] args) throws IOException {
        doc = new Sentences("BoundsOfPicturesTest", args);
        oneForEach();
        atMostEighty();
        ofTheMoment();
        gutterOfTheLeft();
        gutterOfTheRight();
        gutterSettings();
        gutterOfAThinBook();
        numberByGutter();
        guessByNumber();
        guessByNumberNeedsGutter();
        guessIsOfTheMoment();
        guessByOffset();
        guessByThePictureAhead();
        guessBehindTheLastPage();
        notGuessed();
        pairOfASingleOne();
        firstGoodOne();
        firstOneWithoutAGoodOne();
        pageWithoutPicture();
        doubtful();
        spare();
        doc.end();
    }

    private static void oneForEach() {
        doc.says("A picture is taken of the pages that lie open: one for each (left ahead of right)");
        Turner x = Check.withBook("1,1");
        doc.due("shoot() with none on the left", x.shoot(), 1);
        x.turn();
        doc.due("shoot() with both", x.shoot(), 2);
        x.turn();
        doc.due("shoot() with none on the right", x.shoot(), 1);
        for (int picture = 0; picture < 4; picture++) {
            doc.due("picture(" + picture + ", 0)", x.picture(picture, 0), picture);
            doc.due("picture(" + picture + ", 5)", x.picture(picture, 5), 1 - picture % 2);
        }
        doc.due("count(2)", x.count(2), 4);
    }

    private static void atMostEighty() {
        doc.says("at most 80 are kept, numbered from 0");
        Turner x = Check.withBook("1,9");
        doc.due("picture(0, 0) of none", x.picture(0, 0), -1);
        x.shoot();
        doc.due("picture(0, 0) of one", x.picture(0, 0), 0);
        x.turn();
        for (int taken = 3; taken <= 79; taken += 2) {
            doc.due("shoot() up to " + taken, x.shoot(), 2);
        }
        doc.due("count(2)", x.count(2), 79);
        doc.due("shoot() of two with 79", x.shoot(), -3);
        x.turnBack();
        doc.due("shoot() of one with 79", x.shoot(), 1);
        doc.due("count(2)", x.count(2), 80);
        doc.due("picture(79, 0)", x.picture(79, 0), 0);
        doc.due("picture(80, 0)", x.picture(80, 0), -1);
        doc.due("picture(-1, 0)", x.picture(-1, 0), -1);
        doc.due("shoot() of one with 80", x.shoot(), -3);
        x.turn();
        doc.due("shoot() of two with 80", x.shoot(), -3);
    }

    private static void ofTheMoment() {
        doc.says("all of them are those of the moment when it was taken");
        Turner x = Check.withBook(Check.leaves(6));
        x.turn();
        x.shoot();
        x.turn();
        x.turn();
        x.turn();
        x.shoot();
        x.print(1, 199);
        x.print(8, 199);
        x.set(0, 3);
        doc.due("page(8, 4) now", x.page(8, 4), 0);
        wereOfTheMoment(x);
        x.set(0, 0);
        doc.due("page(1, 4) now", x.page(1, 4), 1);
        wereOfTheMoment(x);
        x.turn();
        x.turnBack();
        x.shoot();
        doc.due("picture(5, 1) taken anew", x.picture(5, 1), 199);
    }

    private static void wereOfTheMoment(Turner x) {
        int[][] told = {{1, 0, 0}, {2, 3, 1}, {7, 8, 1}, {8, 9, 1}};
        for (int picture = 0; picture < 4; picture++) {
            for (int what = 0; what <= 2; what++) {
                doc.due("picture(" + picture + ", " + what + ")", x.picture(picture, what),
                    told[picture][what]);
            }
        }
    }

    private static void gutterOfTheLeft() {
        doc.says("the leaves on its own side of the book (the left ones for a left page");
        Turner x = Check.withBook(Check.leaves(10));
        x.set(0, 5);
        for (int leaf = 0; leaf < 10; leaf++) {
            // The leaf itself lies on the left when the page behind it is open.
            doc.due("page(" + (2 * leaf + 1) + ", 4)", x.page(2 * leaf + 1, 4), leaf + 1 >= 5 ? 1 : 0);
        }
        for (int leaf = 0; leaf < 10; leaf++) {
            x.turn();
            x.shoot();
            doc.due("picture(" + 2 * leaf + ", 2)", x.picture(2 * leaf, 2), leaf + 1 >= 5 ? 1 : 0);
        }
    }

    private static void gutterOfTheRight() {
        doc.says("the right ones for a right page) are at least as many as the setting 0");
        Turner x = Check.withBook(Check.leaves(10));
        x.set(0, 5);
        for (int leaf = 0; leaf < 10; leaf++) {
            doc.due("page(" + 2 * leaf + ", 4)", x.page(2 * leaf, 4), 10 - leaf >= 5 ? 1 : 0);
        }
        for (int leaf = 0; leaf < 10; leaf++) {
            x.shoot();
            int picture = x.count(2) - 1;
            doc.due("picture(" + picture + ", 0)", x.picture(picture, 0), 2 * leaf);
            doc.due("picture(" + picture + ", 2)", x.picture(picture, 2), 10 - leaf >= 5 ? 1 : 0);
            x.turn();
        }
    }

    private static void gutterSettings() {
        doc.says("the setting 0 (0 to 10; 2)");
        Turner x = Check.withBook(Check.leaves(20));
        doc.due("count(11) at first", x.count(11), 2);
        doc.due("set(0, -1)", x.set(0, -1), -2);
        doc.due("set(0, 11)", x.set(0, 11), -2);
        gutters(x, 2, 1, 0);
        gutters(x, 2, 3, 1);
        gutters(x, 2, 36, 1);
        gutters(x, 2, 38, 0);
        gutters(x, 0, 1, 1);
        gutters(x, 0, 38, 1);
        gutters(x, 1, 1, 1);
        gutters(x, 1, 38, 1);
        gutters(x, 10, 17, 0);
        gutters(x, 10, 19, 1);
        gutters(x, 10, 20, 1);
        gutters(x, 10, 22, 0);
    }

    private static void gutters(Turner x, int setting, int page, int good) {
        x.set(0, setting);
        doc.due("page(" + page + ", 4) by " + setting, x.page(page, 4), good);
    }

    private static void gutterOfAThinBook() {
        doc.says("or all leaves of the book are fewer than twice that.");
        for (int setting = 1; setting <= 10; setting++) {
            for (int leaves = 1; leaves <= 20; leaves++) {
                Turner x = Check.withLaid(leaves, 0);
                x.set(0, setting);
                boolean thin = leaves < 2 * setting;
                doc.due("page(1, 4) of " + leaves + " by " + setting, x.page(1, 4),
                    thin || setting == 1 ? 1 : 0);
                int last = 2 * leaves - 2;
                doc.due("page(" + last + ", 4) of " + leaves + " by " + setting, x.page(last, 4),
                    thin || setting == 1 ? 1 : 0);
            }
        }
        Turner x = Check.withBook(Check.leaves(3));
        x.scan(60);
        doc.due("picture(1, 2) of three leaves", x.picture(1, 2), 1);
        doc.due("picture(1, 1) of three leaves", x.picture(1, 1), 2);
        x = Check.withBook(Check.leaves(4));
        x.scan(60);
        doc.due("picture(1, 2) of four leaves", x.picture(1, 2), 0);
        doc.due("picture(1, 1) of four leaves", x.picture(1, 1), 0);
    }

    private static void numberByGutter() {
        doc.says("the printed one with its last digit taken off (divided by 10, rounded down); "
            + "none if none is printed.");
        int[] printed = {0, 1, 9, 10, 19, 20, 99, 100, 109, 110, 199, -5};
        int[] read = {0, 0, 0, 1, 1, 2, 9, 10, 10, 11, 19, -5};
        Turner x = Check.withBook(Check.leaves(4));
        x.turn();
        for (int i = 0; i < printed.length; i++) {
            x.print(1, printed[i]);
            x.print(2, printed[i]);
            x.shoot();
            doc.due("read of " + printed[i] + " in a bad gutter", x.picture(2 * i, 1), read[i]);
            doc.due("read of " + printed[i] + " in a good one", x.picture(2 * i + 1, 1), printed[i]);
        }
    }

    /** What is guessed of the first picture, that of page 0, of a book of two leaves. */
    private static int guess(int printed, int offset) {
        Turner x = Check.withBook("1,1");
        x.print(0, printed);
        x.set(2, offset);
        x.shoot();
        return x.picture(0, 3);
    }

    private static void guessByNumber() {
        doc.says("if a number n is read and the gutter is good, and the book has a page n - o");
        doc.due("guess of 0", guess(0, 1), -5);
        doc.due("guess of 1", guess(1, 1), 0);
        doc.due("guess of 4", guess(4, 1), 3);
        doc.due("guess of 5", guess(5, 1), -5);
        doc.due("guess of 199", guess(199, 1), -5);
        doc.due("guess of none", guess(-5, 1), -5);
        Turner x = Check.withBook(Check.leaves(30));
        x.print(0, 60);
        x.shoot();
        doc.due("guess of 60", x.picture(0, 3), 59);
        x.print(0, 61);
        x.shoot();
        doc.due("guess of 61, behind the last page", x.picture(1, 3), -5);
    }

    private static void guessByNumberNeedsGutter() {
        doc.says("if a number n is read and the gutter is good");
        Turner x = Check.withBook(Check.leaves(4));
        x.turn();
        x.print(1, 39);
        x.shoot();
        doc.due("picture(0, 1)", x.picture(0, 1), 3);
        doc.due("picture(0, 3) of a bad gutter", x.picture(0, 3), -5);
        x.shoot();
        doc.due("picture(1, 3) of a good gutter", x.picture(1, 3), 2);
        doc.due("picture(2, 3) of a bad gutter, by its place", x.picture(2, 3), 3);
    }

    private static void guessIsOfTheMoment() {
        doc.says("all of them are those of the moment when it was taken");
        Turner x = Check.withBook(Check.leaves(6));
        x.print(1, 11);
        x.turn();
        x.shoot();
        x.shoot();
        guessed(x, -5, 2, 3, 2);
        x.set(0, 0);
        x.print(1, 2);
        doc.due("page(1, 4) now", x.page(1, 4), 1);
        guessed(x, -5, 2, 3, 2);
        x.print(2, 9);
        guessed(x, -5, 2, 3, 2);
        // By its place behind page 6 the picture of page 8 would be guessed as 7.
        x = Check.withBook(Check.leaves(6));
        x.scan(4);
        x.shoot();
        x.throwAway(7);
        x.set(0, 3);
        doc.due("page(8, 4) now", x.page(8, 4), 0);
        guessed(x, 0, 1, 2, 3, 4, 5, 6, 8);
        doc.due("page(8, 1), whose gutter was good", x.page(8, 1), 7);
        x.print(8, -5);
        x.shoot();
        guessed(x, 0, 1, 2, 3, 4, 5, 6, 8, 7, 8);
        doc.due("page(8, 1), whose gutter was good", x.page(8, 1), 7);
        x.print(8, 9);
        x.throwAway(7);
        doc.due("page(8, 1), whose gutter was bad", x.page(8, 1), 8);
        x.set(0, 2);
        x.shoot();
        doc.due("page(8, 1), whose gutter is good again", x.page(8, 1), 10);
    }

    private static void guessByOffset() {
        doc.says("o being the offset (the setting 2, 0 to 99; 1 at first)");
        Turner x = new Turner();
        doc.due("count(13) at first", x.count(13), 1);
        doc.due("set(2, -1)", x.set(2, -1), -2);
        doc.due("set(2, 100)", x.set(2, 100), -2);
        doc.due("guess of 0 by 0", guess(0, 0), 0);
        doc.due("guess of 3 by 0", guess(3, 0), 3);
        doc.due("guess of 4 by 0", guess(4, 0), -5);
        doc.due("guess of 98 by 99", guess(98, 99), -5);
        doc.due("guess of 99 by 99", guess(99, 99), 0);
        doc.due("guess of 102 by 99", guess(102, 99), 3);
        doc.due("guess of 103 by 99", guess(103, 99), -5);
        doc.due("guess of 0 by 99", guess(0, 99), -5);
        doc.due("guess of none by 0", guess(-5, 0), -5);
    }

    private static void guessByThePictureAhead() {
        doc.says("Otherwise, if the picture ahead of it in the row (by one number less) is guessed "
            + "as p, and the book has a page p + 1, it is guessed as p + 1.");
        Turner x = Check.withBook("1*,1,1*,1*");
        x.set(0, 0);
        x.scan(60);
        int[] guesses = {-5, -5, 2, 3, 4, 5, 6, 7};
        guessed(x, guesses);
        // By the number less than its own, not by what was taken ahead of it.
        x.throwAway(3);
        guessed(x, -5, -5, 2, 3, 4, 5, 6);
        x.throwAway(2);
        guessed(x, -5, -5, -5, -5, -5, -5);
        // Also behind a number that no page of the book has.
        x = Check.withBook("1,1");
        x.print(1, 77);
        x.scan(60);
        guessed(x, 0, 1, 2, 3);
    }

    private static void guessed(Turner x, int... due) {
        for (int picture = 0; picture < due.length; picture++) {
            doc.due("picture(" + picture + ", 3)", x.picture(picture, 3), due[picture]);
        }
        doc.due("count(2)", x.count(2), due.length);
    }

    private static void guessBehindTheLastPage() {
        doc.says("and the book has a page p + 1");
        Turner x = Check.withBook("1,1*");
        x.scan(60);
        x.shoot();
        x.shoot();
        guessed(x, 0, 1, 2, 3, -5, -5);
        doc.due("count(6)", x.count(6), 2);
        // The number 4 on the last page: guessed as it is, and nothing behind it.
        x = Check.withBook("1*,1");
        x.scan(60);
        x.print(3, -5);
        x.shoot();
        guessed(x, -5, -5, 2, 3, -5);
    }

    private static void notGuessed() {
        doc.says("Otherwise it is not guessed.");
        Turner x = Check.withBook("1*,1*");
        x.scan(60);
        guessed(x, -5, -5, -5, -5);
        doc.due("count(6)", x.count(6), 4);
        doc.due("count(3)", x.count(3), 4);
    }

    private static void pairOfASingleOne() {
        doc.says("Pictures that were taken at once are a pair (perhaps of a single one).");
        Turner x = Check.withBook("1,1");
        x.shoot();
        x.shoot();
        x.turn();
        x.shoot();
        x.scan(1);
        // Singles, singles, both; the scan takes both again, turns, and takes a single one.
        int[] pairs = {0, 1, 2, 2, 3, 3, 4};
        for (int picture = 0; picture < pairs.length; picture++) {
            doc.due("picture(" + picture + ", 6)", x.picture(picture, 6), pairs[picture]);
        }
        doc.due("count(14)", x.count(14), 5);
    }

    private static void firstGoodOne() {
        doc.says("The set has for each page the first picture that is guessed as that page and "
            + "whose gutter is good");
        Turner x = Check.withBook(Check.leaves(4));
        x.scan(1);
        x.shoot();
        doc.due("page(1, 1) of a bad gutter", x.page(1, 1), 1);
        x.set(0, 0);
        x.shoot();
        doc.due("page(1, 1) of a good gutter later", x.page(1, 1), 3);
        x.shoot();
        doc.due("page(1, 1) of two good ones", x.page(1, 1), 3);
        x.throwAway(3);
        doc.due("page(1, 1) of the one that is left", x.page(1, 1), 4);
        doc.due("page(2, 1), the first of two", x.page(2, 1), 2);
        // A bad one behind a good one is not taken.
        x = Check.withBook(Check.leaves(4));
        x.set(0, 0);
        x.scan(1);
        x.shoot();
        x.set(0, 2);
        x.throwAway(2);
        x.turnBack();
        x.shoot();
        x.turn();
        x.shoot();
        guessed(x, 0, 1, 0, 1, 2);
        doc.due("picture(3, 2)", x.picture(3, 2), 0);
        doc.due("page(1, 1)", x.page(1, 1), 1);
    }

    private static void firstOneWithoutAGoodOne() {
        doc.says("without one the first picture that is guessed as that page");
        Turner x = Check.withBook(Check.leaves(4));
        x.scan(1);
        x.shoot();
        x.turnBack();
        x.shoot();
        x.turn();
        x.shoot();
        guessed(x, 0, 1, 2, 0, 1, 2);
        doc.due("picture(1, 2)", x.picture(1, 2), 0);
        doc.due("picture(4, 2)", x.picture(4, 2), 0);
        doc.due("page(1, 1) of two bad ones", x.page(1, 1), 1);
        doc.due("picture(4, 4)", x.picture(4, 4), 1);
    }

    private static void pageWithoutPicture() {
        doc.says("it may have none.");
        Turner x = Check.withBook("1,1");
        doc.due("page(0, 1) of no pictures", x.page(0, 1), -5);
        x.shoot();
        doc.due("page(0, 1)", x.page(0, 1), 0);
        for (int page = 1; page < 4; page++) {
            doc.due("page(" + page + ", 1)", x.page(page, 1), -5);
        }
        doc.due("count(3)", x.count(3), 3);
    }

    private static void doubtful() {
        doc.says("A page is doubtful if its picture shows another page in truth.");
        Turner x = Check.withBook("1,1!,1");
        x.scan(60);
        // The pages 2 and 3 are guessed as 4 and 5, and are ahead of those.
        int[] doubts = {0, 0, 0, 0, 1, 1};
        for (int page = 0; page < 6; page++) {
            doc.due("page(" + page + ", 3)", x.page(page, 3), doubts[page]);
        }
        doc.due("count(4)", x.count(4), 2);
        x.throwAway(2);
        x.throwAway(2);
        doc.due("count(4) without them", x.count(4), 0);
        x = Check.withBook("1");
        x.print(0, 2);
        x.shoot();
        doc.due("page(0, 3), which lacks", x.page(0, 3), 0);
        doc.due("page(1, 3), whose picture shows 0", x.page(1, 3), 1);
        doc.due("count(4), the last page alone", x.count(4), 1);
        x = Check.withBook("1");
        x.turn();
        x.print(1, 1);
        x.shoot();
        doc.due("page(0, 3), whose picture shows 1", x.page(0, 3), 1);
        doc.due("count(4), the first page alone", x.count(4), 1);
    }

    private static void spare() {
        doc.says("A picture is spare if it is in the set for no page.");
        Turner x = Check.withBook("1,1*");
        x.shoot();
        x.scan(60);
        x.shoot();
        // Guessed as 0, 0, 1, 2, 3, and none.
        int[] spares = {0, 1, 0, 0, 0, 1};
        for (int picture = 0; picture < spares.length; picture++) {
            doc.due("picture(" + picture + ", 4)", x.picture(picture, 4), spares[picture]);
        }
        doc.due("count(5)", x.count(5), 2);
        doc.due("count(6)", x.count(6), 1);
        x.set(2, 99);
        doc.due("count(5) when none is guessed", x.count(5), 6);
        x.set(2, 1);
        x.throwAway(0);
        doc.due("picture(0, 4), now the first of page 0", x.picture(0, 4), 0);
    }
}
