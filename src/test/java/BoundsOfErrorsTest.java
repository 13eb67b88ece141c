import java.io.IOException;

/** The boundary cases of the terms: errors; that what is refused changes nothing. */
public final class BoundsOfErrorsTest {
    private static Sentences doc;

    private interface Call {
        int on(Turner x);
    }

    private interface Beginning {
        Turner make();
    }

    public static void main(String[] args) throws IOException {
        doc = new Sentences("BoundsOfErrorsTest", args);
        constants();
        orderOfTheChecks();
        noneIfNoErrorApplies();
        refusedOfNewObject();
        refusedOfBooks();
        refusedOfTurning();
        refusedOfPictures();
        refusedOfSettings();
        refusedOfTextsAndHistory();
        refusedQuestions();
        doc.end();
    }

    private static void constants() {
        doc.says("`UNKNOWN = -1`: There is no such leaf, page or picture.");
        doc.due("UNKNOWN", LeafTurner.UNKNOWN, -1);
        doc.says("`BAD_VALUE = -2`: Another argument is out of range.");
        doc.due("BAD_VALUE", LeafTurner.BAD_VALUE, -2);
        doc.says("`FULL = -3`: There is no more room.");
        doc.due("FULL", LeafTurner.FULL, -3);
        doc.says("`NOT_POSSIBLE = -4`: This is not possible.");
        doc.due("NOT_POSSIBLE", LeafTurner.NOT_POSSIBLE, -4);
        doc.says("`NONE = -5`: There is no such thing; not an error.");
        doc.due("NONE", LeafTurner.NONE, -5);
    }

    private static void orderOfTheChecks() {
        doc.says("Where several errors can apply, the order of the @return line is the order of "
            + "the checks.");
        Turner x = new Turner();
        doc.due("print: UNKNOWN ahead of BAD_VALUE", x.print(0, 200), -1);
        doc.due("leaf: UNKNOWN ahead of BAD_VALUE", x.leaf(0, 3), -1);
        doc.due("page: UNKNOWN ahead of BAD_VALUE", x.page(0, 5), -1);
        doc.due("picture: UNKNOWN ahead of BAD_VALUE", x.picture(0, 7), -1);
        doc.due("scan: BAD_VALUE ahead of NOT_POSSIBLE", x.scan(0), -2);
        doc.due("scan: BAD_VALUE ahead of NOT_POSSIBLE", x.scan(61), -2);
        doc.due("would: BAD_VALUE ahead of NOT_POSSIBLE", x.would(0), -2);
        doc.due("would: BAD_VALUE ahead of NOT_POSSIBLE", x.would(21), -2);
        x = fullOfPictures();
        doc.due("scan: BAD_VALUE ahead of FULL", x.scan(0), -2);
        doc.due("scan: BAD_VALUE ahead of FULL", x.scan(61), -2);
        x = Check.withBook("1");
        x.turn();
        doc.due("would: BAD_VALUE ahead of NOT_POSSIBLE", x.would(0), -2);
        doc.due("print: UNKNOWN ahead of BAD_VALUE", x.print(2, -1), -1);
    }

    private static void noneIfNoErrorApplies() {
        doc.says("NONE is no error; it is returned only if no error applies.");
        Turner x = Check.withBook("1*");
        doc.due("print() of no page, none as it was", x.print(2, -5), -1);
        doc.due("print() as it was", x.print(1, -5), -5);
        doc.due("lacking(-1) with none lacking", new Turner().lacking(-1), -2);
        doc.due("lacking(0) with none lacking", new Turner().lacking(0), -5);
        doc.due("open(2) with none open", new Turner().open(2), -2);
        doc.due("open(1) with none open", new Turner().open(1), -5);
        doc.due("best() with no leaf on the right", new Turner().best(), -4);
    }

    private static Turner inTheMidst() {
        Turner x = new Turner();
        x.set(1, 1);
        Check.type(x, "1,1,1,2s9,1*,3!,1,9");
        x.takeBook();
        x.keep();
        x.scan(3);
        x.turnBack();
        x.shoot();
        Check.type(x, "1,1x");
        return x;
    }

    private static Turner fullOfPictures() {
        Turner x = Check.withBook("1,1,9,1");
        x.turn();
        x.turn();
        x.scan(40);
        return x;
    }

    private static Turner allOnTheLeft() {
        Turner x = Check.withBook("1,1,1");
        x.scan(60);
        return x;
    }

    private static Turner fullOfText() {
        Turner x = Check.withBook("1,1");
        Check.type(x, Check.leaves(30) + "!");
        return x;
    }

    /** All that is told, and what comes of it further on, by which hidden changes show as well. */
    private static String future(Turner x) {
        StringBuilder all = new StringBuilder(Check.told(x));
        int[] then = {x.count(15), x.count(16), x.turn(), x.turn(), x.shoot(), x.count(10),
            x.count(14), x.undo(), x.undo(), x.undo(), x.undo(), x.undo(), x.count(2), x.count(10),
            x.restore(), x.count(1), x.turn(), x.count(10), x.takeBook(), x.page(1, 0)};
        for (int answer : then) {
            all.append(' ').append(answer);
        }
        return all.toString();
    }

    private static void refused(String name, Beginning beginning, Call call, int want) {
        Turner x = beginning.make();
        doc.due(name, call.on(x), want);
        doc.holds(name + " changes nothing", future(x).equals(future(beginning.make())));
    }

    private static void changesNothing() {
        doc.says("A call that returns an error or NONE changes nothing.");
    }

    private static void refusedOfNewObject() {
        changesNothing();
        refused("takeBook() of the empty text", Turner::new, x -> x.takeBook(), -100);
        refused("print() without a book", Turner::new, x -> x.print(0, 1), -1);
        refused("turn() without a book", Turner::new, x -> x.turn(), -4);
        refused("turnBack() without a book", Turner::new, x -> x.turnBack(), -4);
        refused("shoot() without a book", Turner::new, x -> x.shoot(), -4);
        refused("scan(1) without a book", Turner::new, x -> x.scan(1), -4);
        refused("throwAway(0) without a book", Turner::new, x -> x.throwAway(0), -1);
        refused("undo() of none", Turner::new, x -> x.undo(), -5);
        refused("restore() of none", Turner::new, x -> x.restore(), -5);
    }

    private static void refusedOfBooks() {
        changesNothing();
        Beginning midst = BoundsOfErrorsTest::inTheMidst;
        refused("takeBook() with a fault", midst, x -> x.takeBook(), -103);
        refused("layBook(0, 0)", midst, x -> x.layBook(0, 0), -2);
        refused("layBook(31, 0)", midst, x -> x.layBook(31, 0), -2);
        refused("layBook(1, -1)", midst, x -> x.layBook(1, -1), -2);
        refused("layBook(1, 10000)", midst, x -> x.layBook(1, 10000), -2);
        refused("print(16, 1)", midst, x -> x.print(16, 1), -1);
        refused("print(-1, 1)", midst, x -> x.print(-1, 1), -1);
        refused("print(0, 200)", midst, x -> x.print(0, 200), -2);
        refused("print(0, -1)", midst, x -> x.print(0, -1), -2);
        refused("print(0, 1) as it was", midst, x -> x.print(0, 1), -5);
        refused("print(8, NONE) as it was", midst, x -> x.print(8, -5), -5);
    }

    private static void refusedOfTurning() {
        changesNothing();
        Beginning left = BoundsOfErrorsTest::allOnTheLeft;
        refused("turn() with none on the right", left, x -> x.turn(), -4);
        refused("would(1) with none on the right", left, x -> x.would(1), -4);
        refused("best() with none on the right", left, x -> x.best(), -4);
        refused("turnBack() with none on the left", () -> Check.withBook("1,1"),
            x -> x.turnBack(), -4);
    }

    private static void refusedOfPictures() {
        changesNothing();
        Beginning full = BoundsOfErrorsTest::fullOfPictures;
        refused("shoot() with 80", full, x -> x.shoot(), -3);
        refused("scan(1) with 80", full, x -> x.scan(1), -3);
        refused("scan(60) with 80", full, x -> x.scan(60), -3);
        Beginning midst = BoundsOfErrorsTest::inTheMidst;
        refused("scan(0)", midst, x -> x.scan(0), -2);
        refused("scan(61)", midst, x -> x.scan(61), -2);
        refused("throwAway(-1)", midst, x -> x.throwAway(-1), -1);
        refused("throwAway(7)", midst, x -> x.throwAway(7), -1);
        refused("scan(60) that is full in its midst, behind turning and learning",
            () -> almostFull("9"), x -> x.scan(60), -3);
        refused("scan(60) that is full at its end", () -> almostFull("1"), x -> x.scan(60), -3);
    }

    private static Turner almostFull(String text) {
        Turner x = Check.withBook(text);
        x.set(1, 1);
        for (int i = 0; i < 79; i++) {
            x.shoot();
        }
        return x;
    }

    private static void refusedOfSettings() {
        changesNothing();
        Beginning midst = BoundsOfErrorsTest::inTheMidst;
        refused("setSuction(0)", midst, x -> x.setSuction(0), -2);
        refused("setSuction(21)", midst, x -> x.setSuction(21), -2);
        refused("setSuction() as it was", midst, x -> x.setSuction(6), -5);
        refused("set(-1, 0)", midst, x -> x.set(-1, 0), -2);
        refused("set(3, 0)", midst, x -> x.set(3, 0), -2);
        refused("set(0, 11)", midst, x -> x.set(0, 11), -2);
        refused("set(1, 2)", midst, x -> x.set(1, 2), -2);
        refused("set(2, 100)", midst, x -> x.set(2, 100), -2);
        refused("set(2, -1)", midst, x -> x.set(2, -1), -2);
        refused("set(0, 2) as it was", midst, x -> x.set(0, 2), -5);
        refused("set(1, 1) as it was", midst, x -> x.set(1, 1), -5);
        refused("set(2, 1) as it was", midst, x -> x.set(2, 1), -5);
    }

    private static void refusedOfTextsAndHistory() {
        changesNothing();
        refused("type() with 60", BoundsOfErrorsTest::fullOfText, x -> x.type('1'), -3);
        refused("type() with 60", BoundsOfErrorsTest::fullOfText, x -> x.type(','), -3);
        refused("restore() of none", BoundsOfErrorsTest::allOnTheLeft, x -> x.restore(), -5);
        refused("undo() of none", BoundsOfErrorsTest::allUndone, x -> x.undo(), -5);
    }

    private static Turner allUndone() {
        Turner x = new Turner();
        Check.type(x, "1,1");
        x.takeBook();
        x.keep();
        x.undo();
        return x;
    }

    private static void refusedQuestions() {
        changesNothing();
        Beginning midst = BoundsOfErrorsTest::inTheMidst;
        refused("leaf(8, 0)", midst, x -> x.leaf(8, 0), -1);
        refused("leaf(0, 3)", midst, x -> x.leaf(0, 3), -2);
        refused("page(16, 0)", midst, x -> x.page(16, 0), -1);
        refused("page(0, 5)", midst, x -> x.page(0, 5), -2);
        refused("picture(7, 0)", midst, x -> x.picture(7, 0), -1);
        refused("picture(0, 7)", midst, x -> x.picture(0, 7), -2);
        refused("open(2)", midst, x -> x.open(2), -2);
        refused("would(0)", midst, x -> x.would(0), -2);
        refused("lacking(-1)", midst, x -> x.lacking(-1), -2);
        refused("lacking(60)", midst, x -> x.lacking(60), -5);
        refused("count(17)", midst, x -> x.count(17), -2);
    }
}
