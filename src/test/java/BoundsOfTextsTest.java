import java.io.IOException;

/** The boundary cases of the terms: texts. */
public final class BoundsOfTextsTest {
    private static Sentences doc;

    public static void main(String[] args) throws IOException {
        doc = new Sentences("BoundsOfTextsTest", args);
        atMostSixty();
        oneOrMoreLeaves();
        atMostThirty();
        weightOfALeaf();
        strengthOfALeaf();
        markOfALeaf();
        nothingPrinted();
        twoTooMuch();
        printedElse();
        firstFault();
        endsTooEarly();
        doc.end();
    }

    private static void taken(String text, int want) {
        doc.due("takeBook() of '" + text + "'", Check.taken(text), want);
    }

    private static void atMostSixty() {
        doc.says("There is a text of at most 60 characters, empty at first.");
        Turner x = new Turner();
        doc.due("count(16) at first", x.count(16), 0);
        doc.due("takeBook() at first", x.takeBook(), -100);
        for (int length = 1; length <= 60; length++) {
            doc.due("type() number " + length, x.type(length % 2 == 1 ? '1' : ','), length);
        }
        doc.due("type() number 61", x.type('1'), -3);
        doc.due("type() number 61, another sign", x.type('x'), -3);
        doc.due("count(16)", x.count(16), 60);
        doc.due("takeBook() of all 60", x.takeBook(), -159);
        doc.due("clearText()", x.clearText(), 60);
        doc.due("type() then", x.type('1'), 1);
        doc.due("takeBook() then", x.takeBook(), 1);
    }

    private static void oneOrMoreLeaves() {
        doc.says("A text of a book is one or more leaves with \",\" between two");
        taken("", -100);
        taken("1", 1);
        taken("1,1", 2);
        taken(",", -100);
        taken(",1", -100);
        taken("1,", -102);
        taken("1,,1", -102);
        taken("1,1,", -104);
        taken("11", -101);
        taken("1 1", -101);
        taken("1;1", -101);
        taken("1-1", -101);
        taken("1+1", -101);
        taken(" 1", -100);
        taken("1 ", -101);
        taken("1\n", -101);
        taken("1" + (char) (',' + 256) + "1", -101);
    }

    private static void atMostThirty() {
        doc.says("at most 30: a weight");
        taken(Check.leaves(29), 29);
        taken(Check.leaves(30), 30);
        taken(Check.leaves(30) + "*", 30);
        taken(Check.leaves(30) + "!", 30);
        taken(Check.leaves(30) + ",", -159);
        taken(Check.leaves(29) + ",9", 30);
        taken(Check.leaves(29) + ",9!", 30);
        taken(Check.leaves(28) + ",1s9*", 29);
        Turner x = Check.withBook(Check.leaves(29) + ",9!");
        doc.due("leaf(29, 0)", x.leaf(29, 0), 9);
        doc.due("page(59, 0)", x.page(59, 0), 62);
    }

    private static void weightOfALeaf() {
        doc.says("a weight (1 to 9)");
        taken("0", -100);
        taken(":", -100);
        taken("/", -100);
        taken("-1", -100);
        taken("10", -101);
        taken("99", -101);
        taken("a", -100);
        taken("" + (char) ('1' + 256), -100);
        taken("" + (char) 0, -100);
        taken("" + (char) 65535, -100);
        taken("1,0", -102);
        taken("1,:", -102);
        Turner x = Check.withBook("1,9");
        doc.due("leaf(0, 0)", x.leaf(0, 0), 1);
        doc.due("leaf(1, 0)", x.leaf(1, 0), 9);
    }

    private static void strengthOfALeaf() {
        doc.says("perhaps \"s\" and a strength (1 to 9; 0 without it)");
        taken("1s0", -102);
        taken("1s:", -102);
        taken("1s/", -102);
        taken("1s", -102);
        taken("1s,1", -102);
        taken("1s*", -102);
        taken("1s!", -102);
        taken("1ss1", -102);
        taken("1s10", -103);
        taken("1s1s1", -103);
        taken("1S1", -101);
        taken("1r1", -101);
        taken("1t1", -101);
        taken("s1", -100);
        Turner x = Check.withBook("1s1,1s9,1");
        doc.due("leaf(0, 1)", x.leaf(0, 1), 1);
        doc.due("leaf(1, 1)", x.leaf(1, 1), 9);
        doc.due("leaf(2, 1)", x.leaf(2, 1), 0);
        // A strength of an earlier book must not show where a later one has none.
        Check.type(x, "1,1");
        x.takeBook();
        doc.due("leaf(0, 1) of the later book", x.leaf(0, 1), 0);
    }

    private static void markOfALeaf() {
        doc.says("and perhaps \"*\" (both of its pages have no printed number) or \"!\"");
        taken("1*", 1);
        taken("1!", 1);
        taken("1s1*", 1);
        taken("1s1!", 1);
        taken("1*,1!", 2);
        taken("*", -100);
        taken("!", -100);
        taken("1**", -102);
        taken("1*!", -102);
        taken("1!*", -102);
        taken("1!!", -102);
        taken("1*s1", -102);
        taken("1!s1", -102);
        taken("1*1", -102);
        taken("1s1*!", -104);
        taken("1+", -101);
        taken("1)", -101);
        taken("1 *", -101);
        taken("1\"", -101);
    }

    private static void printed(String text, int... due) {
        Turner x = Check.withBook(text);
        for (int page = 0; page < due.length; page++) {
            doc.due("page(" + page + ", 0) of " + text, x.page(page, 0), due[page]);
        }
    }

    private static void nothingPrinted() {
        doc.says("both of its pages have no printed number");
        printed("1*", -5, -5);
        printed("1,1*,1", 1, 2, -5, -5, 5, 6);
        Turner x = Check.withBook(Check.leaves(30) + "*");
        doc.due("page(57, 0)", x.page(57, 0), 58);
        doc.due("page(58, 0)", x.page(58, 0), -5);
        doc.due("page(59, 0)", x.page(59, 0), -5);
    }

    private static void twoTooMuch() {
        doc.says("both of its pages have printed numbers that are 2 more than they should be");
        printed("1!", 3, 4);
        printed("1,1!,1", 1, 2, 5, 6, 5, 6);
        Turner x = Check.withBook(Check.leaves(30) + "!");
        doc.due("page(57, 0)", x.page(57, 0), 58);
        doc.due("page(58, 0)", x.page(58, 0), 61);
        doc.due("page(59, 0)", x.page(59, 0), 62);
    }

    private static void printedElse() {
        doc.says("Pages else have their number and 1 as printed numbers.");
        printed("1", 1, 2);
        Turner x = Check.withBook(Check.leaves(30));
        for (int page = 0; page < 60; page++) {
            doc.due("page(" + page + ", 0)", x.page(page, 0), page + 1);
        }
    }

    private static void firstFault() {
        doc.says("The fault of the text is the index, from 0, of the first character that is not "
            + "allowed at its place");
        taken("x", -100);
        taken("xx", -100);
        taken("1x", -101);
        taken("1x,x", -101);
        taken("1,x,x", -102);
        taken("0,0", -100);
        taken("1s1*,2s2!,0", -110);
        taken("1s1*,2s2!,3s3x", -113);
        taken(Check.leaves(30) + "x", -159);
        taken(Check.leaves(30) + "1", -159);
        taken("0" + Check.leaves(30), -100);
        taken(Check.leaves(15) + "0" + Check.leaves(15), -129);
    }

    private static void endsTooEarly() {
        doc.says("or the length of the text if it ends too early (the empty text does).");
        taken("", -100);
        taken("1s", -102);
        taken("1,", -102);
        taken("1*,", -103);
        taken("1s5,", -104);
        taken("1,1s", -104);
        taken(Check.leaves(29) + ",", -158);
        taken(Check.leaves(29) + "s9,", -160);
        taken(Check.leaves(29) + ",1s", -160);
        // It does not end too early where a leaf may end.
        taken("1,1", 2);
        taken(Check.leaves(29) + "s9", 29);
        Turner x = Check.withBook("1");
        x.clearText();
        doc.due("takeBook() of a text that was emptied", x.takeBook(), -100);
    }
}
