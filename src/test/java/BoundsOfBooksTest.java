import java.io.IOException;

/** The boundary cases of the terms: books. */
public final class BoundsOfBooksTest {
    private static Sentences doc;

    public static void main(String[] args) throws IOException {
        doc = new Sentences("BoundsOfBooksTest", args);
        atMostThirtyLeaves();
        twoPagesForEachLeaf();
        weights();
        strengths();
        strengthOfTheLastLeaf();
        printedNumbers();
        sidesOfLeaves();
        noneLiesOpen();
        doc.end();
    }

    private static void atMostThirtyLeaves() {
        doc.says("A book has at most 30 leaves, numbered from 0");
        doc.due("takeBook() of 30", Check.taken(Check.leaves(30)), 30);
        doc.due("takeBook() of more", Check.taken(Check.leaves(30) + ","), -159);
        Turner x = new Turner();
        doc.due("leaf(0, 2) without a book", x.leaf(0, 2), -1);
        doc.due("layBook(31, 0)", x.layBook(31, 0), -2);
        doc.due("count(0) then", x.count(0), 0);
        x.layBook(30, 0);
        doc.due("count(0) of 30", x.count(0), 30);
        doc.due("leaf(-1, 2) of 30", x.leaf(-1, 2), -1);
        doc.due("leaf(0, 2) of 30", x.leaf(0, 2), 0);
        doc.due("leaf(29, 2) of 30", x.leaf(29, 2), 0);
        doc.due("leaf(30, 2) of 30", x.leaf(30, 2), -1);
        x.layBook(1, 0);
        doc.due("leaf(0, 2) of one", x.leaf(0, 2), 0);
        doc.due("leaf(1, 2) of one", x.leaf(1, 2), -1);
    }

    private static void twoPagesForEachLeaf() {
        doc.says("the leaf k has the pages 2 * k (in front) and 2 * k + 1 (behind)");
        doc.due("page(0, 2) without a book", new Turner().page(0, 2), -1);
        Turner one = Check.withBook("1");
        int[] ofOne = {-1, 0, 0, -1};
        for (int page = -1; page <= 2; page++) {
            doc.due("page(" + page + ", 2) of one leaf", one.page(page, 2), ofOne[page + 1]);
        }
        Turner x = Check.withBook(Check.leaves(30));
        for (int leaf = 0; leaf < 30; leaf++) {
            doc.due("in front of the leaf " + leaf, x.open(1), 2 * leaf);
            x.turn();
            doc.due("behind the leaf " + leaf, x.open(0), 2 * leaf + 1);
        }
        doc.due("page(59, 2) of 30 leaves", x.page(59, 2), 0);
        doc.due("page(60, 2) of 30 leaves", x.page(60, 2), -1);
    }

    private static void weights() {
        doc.says("Each leaf has a weight (1 to 9)");
        for (int weight = 1; weight <= 9; weight++) {
            Turner x = Check.withBook("" + weight);
            doc.due("leaf(0, 0) of " + weight, x.leaf(0, 0), weight);
        }
        // The signs beside 1 and 9 in the row of signs are 0 and a colon.
        doc.due("takeBook() of 0", Check.taken("0"), -100);
        doc.due("takeBook() of a colon", Check.taken(":"), -100);
    }

    private static void strengths() {
        doc.says("sticks to the next one by a strength of 0 to 9");
        Turner none = Check.withBook("1,1");
        Turner least = Check.withBook("1s1,1");
        Turner most = Check.withBook("1s9,1");
        doc.due("leaf(0, 1) of the least", none.leaf(0, 1), 0);
        doc.due("leaf(0, 1) of 1", least.leaf(0, 1), 1);
        doc.due("leaf(0, 1) of the most", most.leaf(0, 1), 9);
        for (int suction = 1; suction <= 20; suction++) {
            String call = "would(" + suction + ") by a strength of ";
            doc.due(call + 0, none.would(suction), 1);
            doc.due(call + 1, least.would(suction), 1);
            doc.due(call + 9, most.would(suction), suction >= 2 && suction <= 9 ? 2 : 1);
        }
    }

    private static void strengthOfTheLastLeaf() {
        doc.says("(that of the last leaf does not matter)");
        Turner alone = Check.withBook("1s9");
        Turner behind = Check.withBook("1s9,1s9");
        for (int suction = 1; suction <= 20; suction++) {
            doc.due("would(" + suction + ") of one", alone.would(suction), 1);
            doc.due("would(" + suction + ") of two", behind.would(suction),
                suction >= 2 && suction <= 9 ? 2 : 1);
        }
        doc.due("leaf(0, 1) tells it still", alone.leaf(0, 1), 9);
        doc.due("turn() of one", alone.turn(), 1);
    }

    private static void printedNumbers() {
        doc.says("Each page has a printed number (0 to 199), or none.");
        Turner x = Check.withBook("1");
        doc.due("print(0, 0)", x.print(0, 0), 1);
        doc.due("page(0, 0) of the least", x.page(0, 0), 0);
        doc.due("print(0, -1)", x.print(0, -1), -2);
        doc.due("print(0, 199)", x.print(0, 199), 0);
        doc.due("page(0, 0) of the most", x.page(0, 0), 199);
        doc.due("print(0, 200)", x.print(0, 200), -2);
        doc.due("print(0, NONE)", x.print(0, -5), 199);
        doc.due("page(0, 0) of none", x.page(0, 0), -5);
        doc.due("page(1, 0) beside it", x.page(1, 0), 2);
    }

    private static void sidesOfLeaves() {
        doc.says("Leaves that were turned lie on the left, the others on the right; "
            + "at first all are on the right.");
        Turner laid = Check.withLaid(30, 1);
        doc.due("count(1) at first", laid.count(1), 0);
        doc.due("leaf(0, 2) at first", laid.leaf(0, 2), 0);
        Turner x = Check.withBook("1,1,1");
        for (int turned = 0; turned <= 3; turned++) {
            doc.due("count(1)", x.count(1), turned);
            for (int leaf = 0; leaf < 3; leaf++) {
                doc.due("leaf(" + leaf + ", 2) with " + turned + " turned", x.leaf(leaf, 2),
                    leaf < turned ? 1 : 0);
            }
            x.turn();
        }
    }

    private static void noneLiesOpen() {
        doc.says("on the left the page behind of the last turned leaf, on the right the page "
            + "in front of the next one (there may be none of either)");
        Turner x = new Turner();
        doc.due("open(0) without a book", x.open(0), -5);
        doc.due("open(1) without a book", x.open(1), -5);
        x = Check.withBook("1,2s9,1,1");
        int[][] open = {{-5, 0}, {1, 2}, {5, 6}, {7, -5}};
        for (int[] sides : open) {
            doc.due("open(0)", x.open(0), sides[0]);
            doc.due("open(1)", x.open(1), sides[1]);
            x.turn();
        }
    }
}
