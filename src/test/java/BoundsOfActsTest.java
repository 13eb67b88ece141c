import java.io.IOException;

/** The boundary cases of the promises 1 to 11: a new object, books, turning, pictures. */
public final class BoundsOfActsTest {
    private static final int[] FAR = {Integer.MIN_VALUE, Integer.MAX_VALUE};
    private static Sentences doc;

    public static void main(String[] args) throws IOException {
        doc = new Sentences("BoundsOfActsTest", args);
        lastCall();
        newObject();
        takeBookStartsAnew();
        takeBookAnswers();
        layBookStartsAnew();
        layBookSeeds();
        layBookRanges();
        printPages();
        printNumbers();
        turnAnswers();
        turnBackAnswers();
        shootAnswers();
        scanEnds();
        scanTimes();
        scanIsOneAct();
        scanIsFull();
        throwAwayMoves();
        throwAwayUpToNone();
        setSuctionRange();
        setRanges();
        doc.end();
    }

    private static void lastCall() {
        doc.says("An object is used for at most 512 calls after it has been made");
        Turner x = new Turner();
        Check.type(x, "1,1");
        x.takeBook();
        x.set(1, 1);
        while (x.callsLeft() > 3) {
            x.turn();
            x.turnBack();
        }
        doc.due("count(10) by call " + (Turner.MOST_CALLS + 1 - x.callsLeft()), x.count(10), 1);
        while (x.callsLeft() > 1) {
            x.turnBack();
        }
        doc.due("turn() by the last call", x.turn(), 1);
    }

    private static void newObject() {
        doc.says("`LeafTurner()`: Creates a scanner without a book.");
        Turner x = new Turner();
        int[] counts = {0, 0, 0, 0, 0, 0, 0, 0, 0, 0, 6, 2, 0, 1, 0, 0, 0};
        for (int what = 0; what < counts.length; what++) {
            doc.due("count(" + what + ")", x.count(what), counts[what]);
        }
        doc.due("leaf(0, 0)", x.leaf(0, 0), -1);
        doc.due("page(0, 0)", x.page(0, 0), -1);
        doc.due("picture(0, 0)", x.picture(0, 0), -1);
        doc.due("shoot()", x.shoot(), -4);
        doc.due("scan(1)", x.scan(1), -4);
        doc.due("print(0, 1)", x.print(0, 1), -1);
        doc.due("setSuction(7)", x.setSuction(7), 6);
        doc.due("set(0, 0)", x.set(0, 0), 2);
    }

    private static Turner used() {
        Turner x = new Turner();
        Check.type(x, "1,1,5s9,5,9");
        x.takeBook();
        x.set(0, 3);
        x.set(1, 1);
        x.set(2, 7);
        x.setSuction(3);
        x.scan(4);
        return x;
    }

    private static void startsAnew(Turner x, int leaves) {
        doc.due("count(0)", x.count(0), leaves);
        int[] zeros = {1, 2, 4, 5, 6, 7, 8, 9, 14};
        for (int what : zeros) {
            doc.due("count(" + what + ")", x.count(what), 0);
        }
        doc.due("count(3)", x.count(3), 2 * leaves);
        doc.due("leaf(0, 2)", x.leaf(0, 2), 0);
        doc.due("picture(0, 0)", x.picture(0, 0), -1);
        doc.due("open(0)", x.open(0), -5);
        doc.due("open(1)", x.open(1), 0);
        x.shoot();
        doc.due("picture(0, 6)", x.picture(0, 6), 0);
    }

    private static void takeBookStartsAnew() {
        doc.says("Takes the book of the text, which stays; all leaves are on the right, and there "
            + "are no pictures. This is an act.");
        Turner x = used();
        doc.due("takeBook()", x.takeBook(), 5);
        doc.due("count(16)", x.count(16), 11);
        startsAnew(x, 5);
        Check.type(x, "3");
        doc.due("takeBook() of one leaf", x.takeBook(), 1);
        doc.due("leaf(0, 0)", x.leaf(0, 0), 3);
        doc.due("leaf(1, 0) of the longer book", x.leaf(1, 0), -1);
        doc.due("page(2, 0) of the longer book", x.page(2, 0), -1);
    }

    private static void takeBookAnswers() {
        doc.says("Returns how many leaves it has; -100 minus the fault of the text if it has one "
            + "(which is an error).");
        doc.due("takeBook() of one", Check.taken("1"), 1);
        doc.due("takeBook() of 30", Check.taken(Check.leaves(30)), 30);
        doc.due("takeBook() of none", Check.taken(""), -100);
        doc.due("takeBook() of 60 that end too early", Check.taken(Check.leaves(29) + "s9,"), -160);
        Turner x = used();
        int states = x.count(15);
        int suction = x.count(10);
        Check.type(x, "9!,9*,9s");
        doc.due("takeBook() with a fault at the end", x.takeBook(), -108);
        doc.due("count(15)", x.count(15), states);
        doc.due("count(10)", x.count(10), suction);
        doc.due("count(0)", x.count(0), 5);
        doc.due("leaf(2, 0)", x.leaf(2, 0), 5);
        doc.due("page(0, 0)", x.page(0, 0), 1);
    }

    private static void layBookStartsAnew() {
        doc.says("Lays a book by a seed, as takeBook()");
        Turner x = used();
        x.layBook(4, 5);
        startsAnew(x, 4);
        doc.due("count(16), the text stays", x.count(16), 11);
        x.layBook(1, 5);
        doc.due("leaf(1, 0) of the longer book", x.leaf(1, 0), -1);
        x.layBook(30, 5);
        doc.due("page(59, 0) of the longest book", x.page(59, 0), 60);
    }

    private static void laid(int seed, int weight, int strength, boolean bare) {
        Turner x = new Turner();
        doc.due("layBook(1, " + seed + ")", x.layBook(1, seed), weight);
        doc.due("leaf(0, 0) by " + seed, x.leaf(0, 0), weight);
        doc.due("leaf(0, 1) by " + seed, x.leaf(0, 1), strength);
        doc.due("page(0, 0) by " + seed, x.page(0, 0), bare ? -5 : 1);
        doc.due("page(1, 0) by " + seed, x.page(1, 0), bare ? -5 : 2);
    }

    private static void layBookSeeds() {
        doc.says("for each leaf the seed becomes (421 * seed + 1663) % 10000");
        laid(0, 4, 6, true);
        laid(9999, 3, 0, false);
        Turner x = Check.withLaid(2, 7597);
        // 7597 becomes 0, and that 1663, as from the seed 0 itself.
        doc.due("leaf(1, 0) behind the seed 0", x.leaf(1, 0), 4);
        doc.says("its weight is 1 + seed % 5");
        laid(9521, 5, 0, true);
        laid(7502, 1, 0, true);
        doc.says("its strength seed / 10 % 10, but 0 if that is less than 6");
        laid(7597, 1, 0, true);
        laid(8476, 5, 0, true);
        laid(6457, 1, 6, true);
        laid(8286, 5, 6, true);
        laid(5887, 1, 9, true);
        doc.says("but none if seed / 100 % 8 is 0");
        laid(7716, 5, 9, true);
        laid(5697, 1, 0, false);
        laid(4416, 5, 9, false);
        laid(2397, 1, 0, true);
        laid(2516, 5, 9, true);
        laid(497, 1, 0, false);
        laid(9616, 5, 9, false);
    }

    private static void layBookRanges() {
        doc.says("- `leaves`: 1 to 30 - `seed`: 0 to 9999 Returns the sum of all weights; BAD_VALUE.");
        Turner x = new Turner();
        int[][] wrong = {{0, 0}, {31, 0}, {-1, 0}, {1, -1}, {1, 10000}, {0, -1}, {31, 10000}};
        for (int[] one : wrong) {
            doc.due("layBook(" + one[0] + ", " + one[1] + ")", x.layBook(one[0], one[1]), -2);
        }
        for (int far : FAR) {
            doc.due("layBook(" + far + ", 0)", x.layBook(far, 0), -2);
            doc.due("layBook(1, " + far + ")", x.layBook(1, far), -2);
        }
        doc.due("count(0)", x.count(0), 0);
        int[][] right = {{1, 0}, {30, 0}, {1, 9999}, {30, 9999}};
        for (int[] one : right) {
            int answer = x.layBook(one[0], one[1]);
            int sum = 0;
            for (int leaf = 0; leaf < one[0]; leaf++) {
                sum += x.leaf(leaf, 0);
            }
            doc.due("layBook(" + one[0] + ", " + one[1] + ")", answer, sum);
            doc.due("count(0)", x.count(0), one[0]);
        }
    }

    private static void printPages() {
        doc.says("Changes the printed number of a page. This is an act. - `page`: a page");
        Turner x = Check.withBook("1,1");
        doc.due("print(-1, 9)", x.print(-1, 9), -1);
        doc.due("print(4, 9)", x.print(4, 9), -1);
        for (int far : FAR) {
            doc.due("print(" + far + ", 9)", x.print(far, 9), -1);
        }
        doc.due("print(0, 9)", x.print(0, 9), 1);
        doc.due("print(3, 9)", x.print(3, 9), 4);
        x = Check.withBook(Check.leaves(30));
        doc.due("print(59, 9)", x.print(59, 9), 60);
        doc.due("print(60, 9)", x.print(60, 9), -1);
        doc.due("page(58, 0)", x.page(58, 0), 59);
        doc.due("page(59, 0)", x.page(59, 0), 9);
    }

    private static void printNumbers() {
        doc.says("- `number`: 0 to 199, or NONE Returns the previous one (200 if there was none); "
            + "UNKNOWN; BAD_VALUE; NONE if it is so already.");
        Turner x = Check.withBook("1*");
        int[] wrong = {-1, -2, -3, -4, -6, 200, FAR[0], FAR[1]};
        for (int number : wrong) {
            doc.due("print(0, " + number + ")", x.print(0, number), -2);
        }
        doc.due("print(0, NONE) with none", x.print(0, -5), -5);
        doc.due("print(0, 0)", x.print(0, 0), 200);
        doc.due("print(0, 0) again", x.print(0, 0), -5);
        doc.due("print(0, 199)", x.print(0, 199), 0);
        doc.due("print(0, 199) again", x.print(0, 199), -5);
        doc.due("print(0, NONE)", x.print(0, -5), 199);
        doc.due("print(0, NONE) again", x.print(0, -5), -5);
        doc.due("print(0, 5)", x.print(0, 5), 200);
        doc.due("count(15), four were acts, and takeBook()", x.count(15), 4);
    }

    private static void turnAnswers() {
        doc.says("Returns how many leaves are turned (0, too); NOT_POSSIBLE if no leaf is on the "
            + "right.");
        Turner x = Check.withBook("7,1s9,1,1");
        doc.due("turn() of none", x.turn(), 0);
        doc.due("count(15)", x.count(15), 2);
        x.setSuction(7);
        doc.due("turn() of one", x.turn(), 1);
        doc.due("turn() of two", x.turn(), 2);
        doc.due("turn() of the last", x.turn(), 1);
        doc.due("turn() behind the last", x.turn(), -4);
        doc.due("turn() without a book", new Turner().turn(), -4);
        x = Check.withBook("9");
        doc.due("turn() of the only one, too heavy", x.turn(), 0);
        doc.due("turn() of it again", x.turn(), 0);
        doc.due("count(9)", x.count(9), 2);
    }

    private static void turnBackAnswers() {
        doc.says("Returns how many leaves are on the left then; NOT_POSSIBLE if none is.");
        Turner x = Check.withBook("1,1s9,1");
        doc.due("turnBack() at first", x.turnBack(), -4);
        x.turn();
        x.turn();
        for (int left = 2; left >= 0; left--) {
            doc.due("turnBack()", x.turnBack(), left);
        }
        doc.due("turnBack() with none", x.turnBack(), -4);
        doc.due("turnBack() without a book", new Turner().turnBack(), -4);
        x = Check.withBook(Check.leaves(30));
        x.scan(60);
        doc.due("turnBack() of 30", x.turnBack(), 29);
    }

    private static void shootAnswers() {
        doc.says("Returns how many are taken; NOT_POSSIBLE without a book; FULL if more than 80 "
            + "would be kept.");
        doc.due("shoot() without a book", new Turner().shoot(), -4);
        Turner x = Check.withBook("1");
        for (int taken = 1; taken <= 80; taken++) {
            doc.due("shoot() number " + taken, x.shoot(), 1);
        }
        doc.due("shoot() with 80", x.shoot(), -3);
        x.throwAway(40);
        doc.due("shoot() with 79", x.shoot(), 1);
        doc.due("shoot() with 80 again", x.shoot(), -3);
        x.takeBook();
        doc.due("shoot() of a new book", x.shoot(), 1);
        x = Check.withBook("1,9");
        x.turn();
        x.scan(39);
        doc.due("count(2)", x.count(2), 78);
        doc.due("shoot() of two with 78", x.shoot(), 2);
        x.throwAway(0);
        doc.due("shoot() of two with 79", x.shoot(), -3);
        x.throwAway(0);
        doc.due("shoot() of two with 78 again", x.shoot(), 2);
    }

    private static void scanEnds() {
        doc.says("Takes a picture and turns, again and again, but at most so many times, until no "
            + "leaf is on the right; if none is then, takes a picture.");
        Turner x = Check.withBook("1,1,1");
        doc.due("scan(2) of three leaves", x.scan(2), 3);
        doc.due("count(1)", x.count(1), 2);
        doc.due("scan(1), by which none is on the right", x.scan(1), 3);
        doc.due("count(1)", x.count(1), 3);
        doc.due("scan(1) with none on the right", x.scan(1), 1);
        doc.due("count(7), without a turning", x.count(7), 3);
        x = Check.withBook("1,1,1");
        doc.due("scan(3) of three leaves", x.scan(3), 6);
        x = Check.withBook("1,1,1");
        doc.due("scan(4) of three leaves", x.scan(4), 6);
        doc.due("count(7)", x.count(7), 3);
        x = Check.withBook("1s9,1,1");
        doc.due("scan(2) of two that stick and one", x.scan(2), 4);
        x = Check.withBook("9");
        doc.due("scan(5) of a heavy leaf", x.scan(5), 5);
        doc.due("count(1)", x.count(1), 0);
        x = Check.withBook(Check.leaves(30));
        doc.due("scan(60) of 30 leaves", x.scan(60), 60);
        doc.due("count(14)", x.count(14), 31);
    }

    private static void scanTimes() {
        doc.says("- `times`: 1 to 60: turnings at most Returns how many pictures are taken; "
            + "BAD_VALUE; NOT_POSSIBLE without a book");
        int[] wrong = {0, -1, 61, FAR[0], FAR[1]};
        Turner x = Check.withBook("9");
        for (int times : wrong) {
            doc.due("scan(" + times + ")", x.scan(times), -2);
            doc.due("scan(" + times + ") without a book", new Turner().scan(times), -2);
        }
        doc.due("scan(1) without a book", new Turner().scan(1), -4);
        doc.due("scan(60) without a book", new Turner().scan(60), -4);
        doc.due("scan(1)", x.scan(1), 1);
        doc.due("count(7)", x.count(7), 1);
        doc.due("scan(60)", x.scan(60), 60);
        doc.due("count(7)", x.count(7), 61);
    }

    private static void scanIsOneAct() {
        doc.says("This is one act.");
        Turner x = Check.withBook(Check.leaves(6));
        x.set(1, 1);
        x.scan(60);
        doc.due("count(15)", x.count(15), 3);
        doc.due("count(10) behind six", x.count(10), 5);
        doc.due("undo()", x.undo(), 2);
        int[] counts = {6, 0, 0, 12, 0, 0, 0, 0, 0, 0, 6, 2, 1, 1, 0};
        for (int what = 0; what < counts.length; what++) {
            doc.due("count(" + what + ")", x.count(what), counts[what]);
        }
    }

    private static void scanIsFull() {
        doc.says("FULL if more than 80 would be kept.");
        Turner x = Check.withBook("9");
        x.scan(60);
        doc.due("scan(21) with 60", x.scan(21), -3);
        doc.due("count(2)", x.count(2), 60);
        doc.due("count(7)", x.count(7), 60);
        doc.due("scan(20) with 60", x.scan(20), 20);
        doc.due("scan(1) with 80", x.scan(1), -3);
        x = Check.withBook("1,9");
        x.turn();
        doc.due("scan(41) of two each", x.scan(41), -3);
        doc.due("scan(40) of two each", x.scan(40), 80);
        // The picture at the end is one more.
        x = Check.withBook("7");
        x.scan(60);
        x.scan(19);
        x.setSuction(7);
        doc.due("scan(1) with 79 and a picture at the end", x.scan(1), -3);
        doc.due("count(1)", x.count(1), 0);
        x.throwAway(0);
        doc.due("scan(1) with 78 and a picture at the end", x.scan(1), 2);
        doc.due("scan(1) with 80 and none on the right", x.scan(1), -3);
        x.throwAway(79);
        doc.due("scan(60) with 79 and none on the right", x.scan(60), 1);
    }

    private static void throwAwayMoves() {
        doc.says("Throws a picture away; those behind it get numbers that are 1 less (the other one "
            + "of its pair stays, as the same side).");
        Turner x = Check.withBook("1,1");
        x.scan(60);
        doc.due("throwAway(1), a left one", x.throwAway(1), 3);
        int[][] left = {{0, 1, 0}, {2, 1, 1}, {3, 0, 2}};
        for (int picture = 0; picture < 3; picture++) {
            doc.due("picture(" + picture + ", 0)", x.picture(picture, 0), left[picture][0]);
            doc.due("picture(" + picture + ", 5)", x.picture(picture, 5), left[picture][1]);
            doc.due("picture(" + picture + ", 6)", x.picture(picture, 6), left[picture][2]);
        }
        x.undo();
        doc.due("throwAway(2), a right one", x.throwAway(2), 3);
        doc.due("picture(1, 0)", x.picture(1, 0), 1);
        doc.due("picture(1, 5)", x.picture(1, 5), 0);
        doc.due("picture(1, 6)", x.picture(1, 6), 1);
        doc.due("picture(2, 0)", x.picture(2, 0), 3);
        doc.due("throwAway(2), the last one", x.throwAway(2), 2);
        doc.due("throwAway(0), the first one", x.throwAway(0), 1);
        doc.due("picture(0, 0)", x.picture(0, 0), 1);
        // Of four leaves the pages 1 and 6 have bad gutters.
        x = Check.withBook(Check.leaves(4));
        x.scan(60);
        x.throwAway(0);
        int[] numbers = {0, 3, 4, 5, 6, 0, 8};
        int[] gutters = {0, 1, 1, 1, 1, 0, 1};
        for (int picture = 0; picture < 7; picture++) {
            doc.due("picture(" + picture + ", 1)", x.picture(picture, 1), numbers[picture]);
            doc.due("picture(" + picture + ", 2)", x.picture(picture, 2), gutters[picture]);
        }
    }

    private static void throwAwayUpToNone() {
        doc.says("- `picture`: a picture Returns how many are kept then; UNKNOWN.");
        Turner x = Check.withBook("1");
        doc.due("throwAway(0) of none", x.throwAway(0), -1);
        for (int i = 0; i < 80; i++) {
            x.shoot();
        }
        int[] wrong = {-1, 80, FAR[0], FAR[1]};
        for (int picture : wrong) {
            doc.due("throwAway(" + picture + ") of 80", x.throwAway(picture), -1);
        }
        doc.due("throwAway(79) of 80", x.throwAway(79), 79);
        doc.due("throwAway(79) of 79", x.throwAway(79), -1);
        for (int kept = 78; kept >= 0; kept--) {
            doc.due("throwAway(0)", x.throwAway(0), kept);
        }
        doc.due("throwAway(0) of none", x.throwAway(0), -1);
        doc.due("throwAway(0) without a book", new Turner().throwAway(0), -1);
    }

    private static void setSuctionRange() {
        doc.says("- `suction`: 1 to 20 Returns the previous one; BAD_VALUE; NONE if it is so already.");
        Turner x = new Turner();
        int[] wrong = {0, -1, 21, FAR[0], FAR[1]};
        for (int suction : wrong) {
            doc.due("setSuction(" + suction + ")", x.setSuction(suction), -2);
        }
        doc.due("setSuction(6)", x.setSuction(6), -5);
        doc.due("setSuction(1)", x.setSuction(1), 6);
        doc.due("setSuction(1) again", x.setSuction(1), -5);
        doc.due("setSuction(20)", x.setSuction(20), 1);
        doc.due("setSuction(20) again", x.setSuction(20), -5);
        doc.due("count(15)", x.count(15), 2);
    }

    private static void setRanges() {
        doc.says("Sets a setting: 0 the least leaves of a good gutter (0 to 10), 1 whether the "
            + "suction learns (0 or 1), 2 the offset (0 to 99).");
        Turner x = new Turner();
        int[] first = {2, 0, 1};
        int[] most = {10, 1, 99};
        for (int which = 0; which <= 2; which++) {
            String call = "set(" + which + ", ";
            doc.due(call + "-1)", x.set(which, -1), -2);
            doc.due(call + (most[which] + 1) + ")", x.set(which, most[which] + 1), -2);
            doc.due(call + FAR[0] + ")", x.set(which, FAR[0]), -2);
            doc.due(call + FAR[1] + ")", x.set(which, FAR[1]), -2);
            doc.due(call + first[which] + ")", x.set(which, first[which]), -5);
            doc.due(call + most[which] + ")", x.set(which, most[which]), first[which]);
            doc.due(call + most[which] + ") again", x.set(which, most[which]), -5);
            doc.due(call + "0)", x.set(which, 0), most[which]);
            doc.due(call + "0) again", x.set(which, 0), -5);
        }
        doc.says("- `which`: 0 to 2 - `value`: in its range Returns the previous one; BAD_VALUE "
            + "(which or value); NONE if it is so already.");
        int[] wrong = {-1, 3, FAR[0], FAR[1]};
        for (int which : wrong) {
            doc.due("set(" + which + ", 0)", x.set(which, 0), -2);
            doc.due("set(" + which + ", -1)", x.set(which, -1), -2);
        }
        for (int what = 11; what <= 13; what++) {
            doc.due("count(" + what + ")", x.count(what), 0);
        }
    }
}
