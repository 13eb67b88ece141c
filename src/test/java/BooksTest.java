/** Promises 1 to 4: a new object, takeBook, layBook, print. */
public final class BooksTest {
    private static final Check CHECK = new Check("BooksTest");

    public static void main(String[] args) {
        newObject();
        takeBookReadsLeaves();
        takeBookPrints();
        takeBookTellsFaults();
        takeBookWithManyLeaves();
        takeBookClearsWhatIsOfTheBook();
        takeBookWithFaultChangesNothing();
        layBookBySeed();
        layBookInWhole();
        layBookWrongInputs();
        layBookClearsWhatIsOfTheBook();
        printChanges();
        printWrongInputs();
        CHECK.end();
    }

    private static void newObject() {
        Turner x = new Turner();
        int[] counts = {0, 0, 0, 0, 0, 0, 0, 0, 0, 0, 6, 2, 0, 1, 0, 0, 0};
        for (int what = 0; what < counts.length; what++) {
            CHECK.due("new: count(" + what + ")", x.count(what), counts[what]);
        }
        CHECK.due("new: leaf(0, 0)", x.leaf(0, 0), -1);
        CHECK.due("new: page(0, 0)", x.page(0, 0), -1);
        CHECK.due("new: picture(0, 0)", x.picture(0, 0), -1);
        CHECK.due("new: open(0)", x.open(0), -5);
        CHECK.due("new: open(1)", x.open(1), -5);
        CHECK.due("new: lacking(0)", x.lacking(0), -5);
        CHECK.due("new: turn()", x.turn(), -4);
        CHECK.due("new: turnBack()", x.turnBack(), -4);
        CHECK.due("new: shoot()", x.shoot(), -4);
        CHECK.due("new: scan(1)", x.scan(1), -4);
        CHECK.due("new: undo()", x.undo(), -5);
        CHECK.due("new: restore()", x.restore(), -5);
        CHECK.due("new: takeBook()", x.takeBook(), -100);
    }

    private static void takeBookReadsLeaves() {
        Turner x = new Turner();
        Check.type(x, "1,9s9,5s1*,2!,3s4!");
        CHECK.due("takeBook()", x.takeBook(), 5);
        int[] weights = {1, 9, 5, 2, 3};
        int[] strengths = {0, 9, 1, 0, 4};
        for (int leaf = 0; leaf < 5; leaf++) {
            CHECK.due("leaf(" + leaf + ", 0)", x.leaf(leaf, 0), weights[leaf]);
            CHECK.due("leaf(" + leaf + ", 1)", x.leaf(leaf, 1), strengths[leaf]);
            CHECK.due("leaf(" + leaf + ", 2)", x.leaf(leaf, 2), 0);
        }
        CHECK.due("the text stays", x.count(16), 18);
        CHECK.due("takeBook() again", x.takeBook(), 5);
        CHECK.due("both are acts", x.count(15), 2);
    }

    private static void takeBookPrints() {
        Turner x = Check.withBook("1,9s9,5s1*,2!,3s4!");
        int[] printed = {1, 2, 3, 4, -5, -5, 9, 10, 11, 12};
        for (int page = 0; page < printed.length; page++) {
            CHECK.due("page(" + page + ", 0)", x.page(page, 0), printed[page]);
        }
        // A mark of an earlier book must not show in a later one.
        Check.type(x, "1!,1*,1");
        x.takeBook();
        int[] later = {3, 4, -5, -5, 5, 6};
        for (int page = 0; page < later.length; page++) {
            CHECK.due("later page(" + page + ", 0)", x.page(page, 0), later[page]);
        }
    }

    private static void takeBookTellsFaults() {
        fault("", 0);
        fault("0", 0);
        fault("s", 0);
        fault("*", 0);
        fault("!", 0);
        fault(",", 0);
        fault(" 1", 0);
        fault("\0", 0);
        fault("" + (char) ('1' + 256), 0);
        fault("10", 1);
        fault("12", 1);
        fault("1 ", 1);
        fault("1S5", 1);
        fault("1\0", 1);
        fault("1" + (char) (',' + 256) + "1", 1);
        fault("1s", 2);
        fault("1s0", 2);
        fault("1s,", 2);
        fault("1s*", 2);
        fault("1s" + (char) 65535, 2);
        fault("1,", 2);
        fault("1,,1", 2);
        fault("1,0", 2);
        fault("1,*", 2);
        fault("1**", 2);
        fault("1*!", 2);
        fault("1!*", 2);
        fault("1!2", 2);
        fault("1*s5", 2);
        fault("1!s5", 2);
        fault("1s55", 3);
        fault("1s5s5", 3);
        fault("1s5*1", 4);
        fault("1s5!,", 5);
        fault("1s5!,2s", 7);
        fault("1s5!,2s9,3x4", 10);
    }

    private static void fault(String text, int index) {
        Turner x = new Turner();
        Check.type(x, text);
        CHECK.due("takeBook() of '" + text + "'", x.takeBook(), -100 - index);
        CHECK.due("no state of '" + text + "'", x.count(15), 0);
        CHECK.due("no leaf of '" + text + "'", x.count(0), 0);
    }

    private static void takeBookWithManyLeaves() {
        taken(Check.leaves(29) + ",", -158);
        taken(Check.leaves(30), 30);
        taken(Check.leaves(30) + "*", 30);
        taken(Check.leaves(30) + "!", 30);
        taken(Check.leaves(30) + ",", -159);
        taken(Check.leaves(30) + "1", -159);
        taken(Check.leaves(30) + "s", -160);
        taken(Check.leaves(29) + "s9", 29);
        Turner x = Check.withBook(Check.leaves(30) + "!");
        CHECK.due("the last page's number", x.page(59, 0), 62);
        CHECK.due("there is no page 60", x.page(60, 0), -1);
    }

    private static void taken(String text, int want) {
        Turner x = new Turner();
        Check.type(x, text);
        CHECK.due("takeBook() of '" + text + "'", x.takeBook(), want);
    }

    private static void takeBookClearsWhatIsOfTheBook() {
        Turner x = used();
        Check.type(x, "1,1");
        CHECK.due("takeBook()", x.takeBook(), 2);
        isFreshBook(x, 2);
    }

    private static Turner used() {
        Turner x = Check.withBook("1,1,5s9,5,9");
        x.setSuction(12);
        x.set(0, 3);
        x.set(2, 7);
        x.scan(3);
        x.setSuction(3);
        x.turn();
        return x;
    }

    private static void isFreshBook(Turner x, int leaves) {
        CHECK.due("leaves", x.count(0), leaves);
        for (int what = 1; what <= 2; what++) {
            CHECK.due("cleared count(" + what + ")", x.count(what), 0);
        }
        CHECK.due("all pages lack", x.count(3), 2 * leaves);
        for (int what = 4; what <= 9; what++) {
            CHECK.due("cleared count(" + what + ")", x.count(what), 0);
        }
        CHECK.due("the suction stays", x.count(10), 3);
        CHECK.due("the gutter's setting stays", x.count(11), 3);
        CHECK.due("the offset stays", x.count(13), 7);
        CHECK.due("no pairs", x.count(14), 0);
        CHECK.due("open(0)", x.open(0), -5);
        CHECK.due("open(1)", x.open(1), 0);
        CHECK.due("picture(0, 0)", x.picture(0, 0), -1);
        x.shoot();
        CHECK.due("pairs are counted anew", x.picture(0, 6), 0);
    }

    private static void takeBookWithFaultChangesNothing() {
        Turner x = used();
        String before = Check.told(x);
        int states = x.count(15);
        Check.type(x, "9!,9*,9s");
        CHECK.due("takeBook() with a fault", x.takeBook(), -108);
        CHECK.holds("the state is as it was", before.equals(Check.told(x)));
        CHECK.due("no state more", x.count(15), states);
        CHECK.due("the text stays", x.count(16), 8);
    }

    private static void layBookBySeed() {
        Turner x = new Turner();
        // 77 becomes 4080, 9343, 5066 (by 421 * seed + 1663).
        CHECK.due("layBook(3, 77)", x.layBook(3, 77), 1 + 4 + 2);
        int[] weights = {1, 4, 2};
        int[] strengths = {8, 0, 6};
        for (int leaf = 0; leaf < 3; leaf++) {
            CHECK.due("leaf(" + leaf + ", 0)", x.leaf(leaf, 0), weights[leaf]);
            CHECK.due("leaf(" + leaf + ", 1)", x.leaf(leaf, 1), strengths[leaf]);
        }
        int[] printed = {-5, -5, 3, 4, 5, 6};
        for (int page = 0; page < 6; page++) {
            CHECK.due("page(" + page + ", 0)", x.page(page, 0), printed[page]);
        }
        CHECK.due("it is an act", x.count(15), 1);
    }

    private static void layBookInWhole() {
        int[] seeds = {0, 1, 5, 77, 4242, 9998, 9999};
        for (int seed : seeds) {
            for (int leaves = 1; leaves <= 30; leaves++) {
                laid(leaves, seed);
            }
        }
    }

    private static void laid(int leaves, int seed) {
        Turner x = new Turner();
        int answer = x.layBook(leaves, seed);
        String call = "layBook(" + leaves + ", " + seed + ")";
        long next = seed;
        long sum = 0;
        for (int leaf = 0; leaf < leaves; leaf++) {
            next = (421 * next + 1663) % 10000;
            String digits = String.format("%04d", next);
            int tens = digits.charAt(2) - '0';
            boolean bare = Integer.parseInt(digits.substring(0, 2)) % 8 == 0;
            sum += 1 + next % 5;
            CHECK.due(call + " weight", x.leaf(leaf, 0), 1 + next % 5);
            CHECK.due(call + " strength", x.leaf(leaf, 1), tens >= 6 ? tens : 0);
            CHECK.due(call + " front", x.page(2 * leaf, 0), bare ? -5 : 2 * leaf + 1);
            CHECK.due(call + " behind", x.page(2 * leaf + 1, 0), bare ? -5 : 2 * leaf + 2);
        }
        CHECK.due(call, answer, sum);
        CHECK.due(call + " leaves", x.count(0), leaves);
    }

    private static void layBookWrongInputs() {
        int[][] wrong = {{0, 5}, {-1, 5}, {31, 5}, {5, -1}, {5, 10000}, {Integer.MIN_VALUE, 0},
            {Integer.MAX_VALUE, 0}, {1, Integer.MIN_VALUE}, {1, Integer.MAX_VALUE}};
        for (int[] pair : wrong) {
            Turner x = used();
            String before = Check.told(x);
            String call = "layBook(" + pair[0] + ", " + pair[1] + ")";
            int states = x.count(15);
            CHECK.due(call, x.layBook(pair[0], pair[1]), -2);
            CHECK.holds(call + " changes nothing", before.equals(Check.told(x)));
            CHECK.due(call + " is not recorded", x.count(15), states);
        }
    }

    private static void layBookClearsWhatIsOfTheBook() {
        Turner x = used();
        x.layBook(4, 5);
        isFreshBook(x, 4);
    }

    private static void printChanges() {
        Turner x = Check.withBook("1,1*");
        CHECK.due("print(0, 1) is so already", x.print(0, 1), -5);
        CHECK.due("print(2, -5) is so already", x.print(2, -5), -5);
        CHECK.due("neither is recorded", x.count(15), 1);
        CHECK.due("print(0, 199)", x.print(0, 199), 1);
        CHECK.due("page(0, 0)", x.page(0, 0), 199);
        CHECK.due("print(0, 0)", x.print(0, 0), 199);
        CHECK.due("page(0, 0)", x.page(0, 0), 0);
        CHECK.due("print(0, -5)", x.print(0, -5), 0);
        CHECK.due("page(0, 0)", x.page(0, 0), -5);
        CHECK.due("print(3, 7)", x.print(3, 7), 200);
        CHECK.due("page(3, 0)", x.page(3, 0), 7);
        CHECK.due("page(2, 0) stays", x.page(2, 0), -5);
        CHECK.due("page(1, 0) stays", x.page(1, 0), 2);
        CHECK.due("four states", x.count(15), 4);
        x.undo();
        CHECK.due("page(3, 0) before", x.page(3, 0), -5);
    }

    private static void printWrongInputs() {
        Turner x = Check.withBook("1,1");
        int[] noPages = {-1, 4, 60, Integer.MIN_VALUE, Integer.MAX_VALUE};
        for (int page : noPages) {
            CHECK.due("print(" + page + ", 5)", x.print(page, 5), -1);
            CHECK.due("print(" + page + ", 200)", x.print(page, 200), -1);
        }
        int[] noNumbers = {-1, -2, -4, -6, 200, Integer.MIN_VALUE, Integer.MAX_VALUE};
        for (int number : noNumbers) {
            CHECK.due("print(3, " + number + ")", x.print(3, number), -2);
        }
        CHECK.due("page(3, 0) stays", x.page(3, 0), 4);
        CHECK.due("none is recorded", x.count(15), 1);
        CHECK.due("without a book", new Turner().print(0, 1), -1);
    }
}
