/** Promises 7, 8, 9, 19: shoot, scan, throwAway, picture; the gutter of page (18). */
public final class PicturesTest {
    private static final Check CHECK = new Check("PicturesTest");

    public static void main(String[] args) {
        shootTakesWhatIsOpen();
        shootIsOfTheMoment();
        shootIsFull();
        gutters();
        gutterOfThinBook();
        numbersAreRead();
        scanTakesAndTurns();
        scanStopsBehindTimes();
        scanOfHeavyLeaf();
        scanIsOneAct();
        scanLearns();
        scanIsFull();
        scanWrongInputs();
        throwAwayMovesUp();
        pictureTells();
        CHECK.end();
    }

    private static void shootTakesWhatIsOpen() {
        Turner x = Check.withBook("1,1");
        CHECK.due("the right one alone", x.shoot(), 1);
        x.turn();
        CHECK.due("both", x.shoot(), 2);
        x.turn();
        CHECK.due("the left one alone", x.shoot(), 1);
        int[] pages = {0, 1, 2, 3};
        int[] right = {1, 0, 1, 0};
        int[] pairs = {0, 1, 1, 2};
        for (int i = 0; i < 4; i++) {
            CHECK.due("picture(" + i + ", 0)", x.picture(i, 0), pages[i]);
            CHECK.due("picture(" + i + ", 5)", x.picture(i, 5), right[i]);
            CHECK.due("picture(" + i + ", 6)", x.picture(i, 6), pairs[i]);
        }
        CHECK.due("pictures", x.count(2), 4);
        CHECK.due("pairs", x.count(14), 3);
        CHECK.due("it is an act", x.undo(), 3);
        CHECK.due("pictures", x.count(2), 3);
        CHECK.due("pairs", x.count(14), 2);
        CHECK.due("without a book", new Turner().shoot(), -4);
    }

    private static void shootIsOfTheMoment() {
        Turner x = Check.withBook("1,1,1,1");
        x.shoot();
        x.turn();
        x.shoot();
        x.print(0, 77);
        x.print(1, 99);
        CHECK.due("the number read", x.picture(0, 1), 1);
        CHECK.due("the number read of a bad gutter", x.picture(1, 1), 0);
        x.set(0, 0);
        CHECK.due("the gutter", x.picture(1, 2), 0);
        x.shoot();
        CHECK.due("the new number", x.picture(3, 1), 99);
        CHECK.due("the new gutter", x.picture(3, 2), 1);
        x.set(0, 5);
        x.turn();
        CHECK.due("the old gutters", x.picture(0, 2) + x.picture(2, 2) + x.picture(3, 2), 3);
    }

    private static void shootIsFull() {
        Turner x = Check.withBook("1,9");
        x.turn();
        for (int i = 1; i <= 40; i++) {
            CHECK.due("shoot()", x.shoot(), 2);
        }
        CHECK.due("shoot() with 80", x.shoot(), -3);
        CHECK.due("pictures", x.count(2), 80);
        CHECK.due("pairs", x.count(14), 40);
        CHECK.due("picture(79, 6)", x.picture(79, 6), 39);
        CHECK.due("picture(80, 6)", x.picture(80, 6), -1);
        CHECK.due("throwAway(79)", x.throwAway(79), 79);
        CHECK.due("shoot() of two with 79", x.shoot(), -3);
        CHECK.holds("nothing is changed", Check.told(x).equals(Check.told(oneBelowFull())));
        x.turnBack();
        CHECK.due("shoot() of one with 79", x.shoot(), 1);
        CHECK.due("shoot() of one with 80", x.shoot(), -3);
        x.undo();
        CHECK.due("FULL is not recorded", x.count(2), 79);
    }

    private static Turner oneBelowFull() {
        Turner x = Check.withBook("1,9");
        x.turn();
        for (int i = 1; i <= 40; i++) {
            x.shoot();
        }
        x.throwAway(79);
        return x;
    }

    private static void gutters() {
        Turner x = Check.withBook(Check.leaves(5));
        // The settings 0 to 2 ask five leaves, or fewer: then the side decides.
        int[][] good = {{1, 1, 1, 1, 1, 1, 1, 1, 1, 1}, {1, 1, 1, 1, 1, 1, 1, 1, 1, 1},
            {1, 0, 1, 1, 1, 1, 1, 1, 0, 1}, {1, 1, 1, 1, 1, 1, 1, 1, 1, 1}};
        for (int least = 0; least <= 3; least++) {
            x.set(0, least);
            for (int page = 0; page < 10; page++) {
                CHECK.due("least " + least + ": page(" + page + ", 4)", x.page(page, 4),
                    good[least][page]);
            }
        }
        Turner six = Check.withBook(Check.leaves(6));
        six.set(0, 3);
        int[] sides = {1, 0, 1, 0, 1, 1, 1, 1, 0, 1, 0, 1};
        for (int page = 0; page < 12; page++) {
            CHECK.due("six leaves: page(" + page + ", 4)", six.page(page, 4), sides[page]);
        }
        CHECK.due("before it lies open", six.scan(60), 12);
        for (int page = 0; page < 12; page++) {
            CHECK.due("six leaves: picture(" + page + ", 2)", six.picture(page, 2), sides[page]);
            CHECK.due("it does not matter what lies open", six.page(page, 4), sides[page]);
        }
    }

    private static void gutterOfThinBook() {
        Turner x = Check.withBook(Check.leaves(3));
        x.turn();
        x.shoot();
        CHECK.due("three leaves are fewer than twice 2", x.picture(0, 2), 1);
        Check.type(x, Check.leaves(4));
        x.takeBook();
        x.turn();
        x.shoot();
        CHECK.due("four leaves are not", x.picture(0, 2), 0);
        CHECK.due("but enough on the right", x.picture(1, 2), 1);
        x.set(0, 10);
        x.shoot();
        CHECK.due("four leaves are fewer than twice 10", x.picture(2, 2), 1);
    }

    private static void numbersAreRead() {
        Turner x = Check.withBook(Check.leaves(4));
        x.turn();
        int[] printed = {0, 9, 10, 99, 100, 199, -5};
        int[] read = {0, 0, 1, 9, 10, 19, -5};
        for (int i = 0; i < printed.length; i++) {
            x.print(1, printed[i]);
            x.print(2, printed[i]);
            x.shoot();
            CHECK.due("bad gutter, " + printed[i], x.picture(2 * i, 1), read[i]);
            CHECK.due("good gutter, " + printed[i], x.picture(2 * i + 1, 1), printed[i]);
        }
    }

    private static void scanTakesAndTurns() {
        Turner x = Check.withBook("1,1,1");
        CHECK.due("scan(60)", x.scan(60), 6);
        CHECK.due("on the left", x.count(1), 3);
        CHECK.due("turnings", x.count(7), 3);
        CHECK.due("pairs", x.count(14), 4);
        for (int i = 0; i < 6; i++) {
            CHECK.due("picture(" + i + ", 0)", x.picture(i, 0), i);
            CHECK.due("picture(" + i + ", 6)", x.picture(i, 6), (i + 1) / 2);
        }
        CHECK.due("scan(1) with none on the right", x.scan(1), 1);
        CHECK.due("picture(6, 0)", x.picture(6, 0), 5);
        CHECK.due("no turning", x.count(7), 3);
        Turner y = Check.withBook("1s9,1,1");
        CHECK.due("two stick: pages 1 and 2 are not taken", y.scan(60), 4);
        int[] pages = {0, 3, 4, 5};
        for (int i = 0; i < 4; i++) {
            CHECK.due("picture(" + i + ", 0)", y.picture(i, 0), pages[i]);
        }
    }

    private static void scanStopsBehindTimes() {
        Turner x = Check.withBook("1,1,1");
        CHECK.due("scan(1)", x.scan(1), 1);
        CHECK.due("on the left", x.count(1), 1);
        CHECK.due("scan(1)", x.scan(1), 2);
        CHECK.due("on the left", x.count(1), 2);
        CHECK.due("scan(1), by which none is on the right", x.scan(1), 3);
        CHECK.due("on the left", x.count(1), 3);
        CHECK.due("pictures", x.count(2), 6);
        Turner y = Check.withBook("1,1,1");
        CHECK.due("scan(2)", y.scan(2), 3);
        CHECK.due("turnings", y.count(7), 2);
        Turner z = Check.withBook("1,1,1");
        CHECK.due("scan(3)", z.scan(3), 6);
    }

    private static void scanOfHeavyLeaf() {
        Turner x = Check.withBook("1,9");
        CHECK.due("scan(4)", x.scan(4), 7);
        CHECK.due("turnings of none", x.count(9), 3);
        CHECK.due("on the left", x.count(1), 1);
        CHECK.due("picture(6, 0)", x.picture(6, 0), 2);
        CHECK.due("pairs", x.count(14), 4);
    }

    private static void scanIsOneAct() {
        Turner x = Check.withBook("1,1,1,1,1,1");
        x.scan(4);
        CHECK.due("states", x.count(15), 2);
        CHECK.due("undo()", x.undo(), 1);
        CHECK.due("on the left", x.count(1), 0);
        CHECK.due("pictures", x.count(2), 0);
        CHECK.due("turnings", x.count(7), 0);
    }

    private static void scanLearns() {
        Turner x = Check.withBook("9,9");
        x.set(1, 1);
        // By 6 and 8 none is turned, by 10 one; 10 is enough for the other one.
        CHECK.due("scan(60)", x.scan(60), 1 + 1 + 1 + 2 + 1);
        CHECK.due("suction", x.count(10), 10);
        CHECK.due("turnings", x.count(7), 4);
        CHECK.due("turnings of none", x.count(9), 2);
    }

    private static void scanIsFull() {
        Turner x = Check.withBook("9");
        CHECK.due("scan(60)", x.scan(60), 60);
        CHECK.due("scan(21)", x.scan(21), -3);
        CHECK.holds("nothing is changed", Check.told(x).equals(Check.told(scannedSixty())));
        CHECK.due("not recorded", x.count(15), 2);
        CHECK.due("scan(20)", x.scan(20), 20);
        CHECK.due("pictures", x.count(2), 80);
        CHECK.due("scan(1)", x.scan(1), -3);
        x.setSuction(9);
        x.throwAway(0);
        CHECK.due("79, and two more", x.scan(60), -3);
        CHECK.due("it is not turned", x.count(1), 0);
        x.throwAway(0);
        CHECK.due("78, and two more", x.scan(60), 2);
        CHECK.due("pictures", x.count(2), 80);
        CHECK.due("on the left", x.count(1), 1);
        CHECK.due("none on the right, but no room", x.scan(1), -3);
        x.throwAway(5);
        CHECK.due("none on the right, one more", x.scan(1), 1);
        Turner y = Check.withBook("1,9");
        y.turn();
        CHECK.due("pairs", y.scan(40), 80);
        Turner z = Check.withBook("1,9");
        z.turn();
        CHECK.due("more pairs", z.scan(41), -3);
        CHECK.due("the most", z.scan(60), -3);
        CHECK.due("no turning", z.count(7), 1);
        CHECK.due("no picture", z.count(2), 0);
    }

    private static Turner scannedSixty() {
        Turner x = Check.withBook("9");
        x.scan(60);
        return x;
    }

    private static void scanWrongInputs() {
        Turner x = Check.withBook("1,1");
        int[] wrong = {0, -1, 61, Integer.MIN_VALUE, Integer.MAX_VALUE};
        for (int times : wrong) {
            CHECK.due("scan(" + times + ")", x.scan(times), -2);
            CHECK.due("scan(" + times + ") without a book", new Turner().scan(times), -2);
        }
        CHECK.due("without a book", new Turner().scan(60), -4);
        CHECK.due("not recorded", x.count(15), 1);
        CHECK.due("pictures", x.count(2), 0);
    }

    private static void throwAwayMovesUp() {
        Turner x = Check.withBook("1,1,1");
        x.scan(60);
        int[] wrong = {-1, 6, 79, 80, Integer.MIN_VALUE, Integer.MAX_VALUE};
        for (int picture : wrong) {
            CHECK.due("throwAway(" + picture + ")", x.throwAway(picture), -1);
        }
        CHECK.due("not recorded", x.count(15), 2);
        CHECK.due("throwAway(1)", x.throwAway(1), 5);
        int[][] left = {{0, 1, 1, 0}, {2, 3, 1, 1}, {3, 4, 0, 2}, {4, 5, 1, 2}, {5, 6, 0, 3}};
        for (int i = 0; i < 5; i++) {
            CHECK.due("picture(" + i + ", 0)", x.picture(i, 0), left[i][0]);
            CHECK.due("picture(" + i + ", 1)", x.picture(i, 1), left[i][1]);
            CHECK.due("picture(" + i + ", 5)", x.picture(i, 5), left[i][2]);
            CHECK.due("picture(" + i + ", 6)", x.picture(i, 6), left[i][3]);
        }
        CHECK.due("picture(5, 0)", x.picture(5, 0), -1);
        CHECK.due("pairs stay", x.count(14), 4);
        CHECK.due("throwAway(4)", x.throwAway(4), 4);
        x.shoot();
        CHECK.due("the next pair", x.picture(4, 6), 4);
        for (int i = 4; i >= 0; i--) {
            CHECK.due("throwAway(0)", x.throwAway(0), i);
        }
        CHECK.due("throwAway(0) of none", x.throwAway(0), -1);
        CHECK.due("pairs stay", x.count(14), 5);
        x.undo();
        CHECK.due("picture(0, 0)", x.picture(0, 0), 5);
    }

    private static void pictureTells() {
        Turner x = Check.withBook(Check.leaves(4));
        x.scan(1);
        x.shoot();
        int[][] told = {{0, 1, 1, 0, 0, 1, 0}, {1, 0, 0, 1, 0, 0, 1}, {2, 3, 1, 2, 0, 1, 1}};
        for (int picture = 0; picture < 3; picture++) {
            for (int what = 0; what <= 6; what++) {
                CHECK.due("picture(" + picture + ", " + what + ")", x.picture(picture, what),
                    told[picture][what]);
            }
            CHECK.due("picture(" + picture + ", -1)", x.picture(picture, -1), -2);
            CHECK.due("picture(" + picture + ", 7)", x.picture(picture, 7), -2);
        }
        int[] wrong = {-1, 3, 80, Integer.MIN_VALUE, Integer.MAX_VALUE};
        for (int picture : wrong) {
            CHECK.due("picture(" + picture + ", 0)", x.picture(picture, 0), -1);
            CHECK.due("picture(" + picture + ", 7)", x.picture(picture, 7), -1);
        }
        CHECK.due("the greatest what", x.picture(0, Integer.MAX_VALUE), -2);
        CHECK.due("the least what", x.picture(0, Integer.MIN_VALUE), -2);
    }
}
