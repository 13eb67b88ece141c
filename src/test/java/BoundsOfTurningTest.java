import java.io.IOException;

/** The boundary cases of the terms: turning, learning. */
public final class BoundsOfTurningTest {
    private static Sentences doc;

    public static void main(String[] args) throws IOException {
        doc = new Sentences("BoundsOfTurningTest", args);
        suctionAtFirst();
        noLeafOnTheRight();
        lessThanTheWeight();
        theNextOneIfThereIsOne();
        weightsTogether();
        weaklyStuck();
        turnedBackAlone();
        learnsOnlyWhenSet();
        oneMoreBehindTwo();
        twoMoreBehindNone();
        neverPastTwenty();
        oneLessBehindFive();
        atLeastOne();
        rowAnewBehindTheFifth();
        rowAnewBehindOthers();
        rowAnewWithEachBook();
        rowAndTurningBack();
        rowWithoutLearning();
        doc.end();
    }

    private static void suctionAtFirst() {
        doc.says("The suction is 1 to 20 (6 at first).");
        Turner x = new Turner();
        doc.due("count(10) at first", x.count(10), 6);
        doc.due("setSuction(0)", x.setSuction(0), -2);
        doc.due("setSuction(21)", x.setSuction(21), -2);
        doc.due("setSuction(1)", x.setSuction(1), 6);
        doc.due("count(10)", x.count(10), 1);
        doc.due("setSuction(20)", x.setSuction(20), 1);
        doc.due("count(10)", x.count(10), 20);
    }

    private static void noLeafOnTheRight() {
        doc.says("To turn: if no leaf is on the right, it is not possible.");
        Turner x = new Turner();
        doc.due("turn() without a book", x.turn(), -4);
        x.layBook(1, 0);
        doc.due("turn() of the last leaf", x.turn(), 1);
        doc.due("turn() behind it", x.turn(), -4);
        x.turnBack();
        doc.due("turn() of a leaf that was turned back", x.turn(), 1);
    }

    private static void lessThanTheWeight() {
        doc.says("If the suction is less than the weight of the next leaf, none is turned.");
        for (int weight = 1; weight <= 9; weight++) {
            Turner x = Check.withBook("" + weight);
            for (int suction = 1; suction <= 20; suction++) {
                doc.due("would(" + suction + ") of the weight " + weight, x.would(suction),
                    suction < weight ? 0 : 1);
            }
        }
        Turner x = Check.withBook("1,7,1");
        doc.due("turn() ahead of a heavy one", x.turn(), 1);
        doc.due("turn() of 7 by 6", x.turn(), 0);
        doc.due("count(1) then", x.count(1), 1);
        x.setSuction(7);
        doc.due("turn() of 7 by 7", x.turn(), 1);
    }

    private static void theNextOneIfThereIsOne() {
        doc.says("Otherwise the leaf is turned; and with it the next one, if there is one");
        Turner x = Check.withBook("1s9");
        doc.due("turn() of a single leaf", x.turn(), 1);
        x = Check.withBook("1s9,1s9");
        doc.due("turn() of two", x.turn(), 2);
        doc.due("count(1) then", x.count(1), 2);
        x = Check.withBook("1s9,1s9,1s9,1s9");
        x.setSuction(3);
        doc.due("turn() of three of four", x.turn(), 3);
        doc.due("turn() of the last one", x.turn(), 1);
        doc.due("turn() behind it", x.turn(), -4);
    }

    private static void weightsTogether() {
        doc.says("as long as the suction is at least the weights of all leaves that are turned "
            + "by this, that one's too, together");
        Turner x = Check.withBook("2s9,2s9,3s9,1");
        int[] turned = {0, 1, 1, 2, 2, 2, 3, 4, 4, 4};
        for (int suction = 1; suction <= 10; suction++) {
            doc.due("would(" + suction + ")", x.would(suction), turned[suction - 1]);
        }
        // Leaves that were turned before are no weight of this turning.
        x.setSuction(3);
        doc.due("turn() by 3", x.turn(), 1);
        doc.due("would(4) behind it", x.would(4), 1);
        doc.due("would(5) behind it", x.would(5), 2);
        doc.due("would(6) behind it", x.would(6), 3);
        x = Check.withBook("1s9,1s9,1s9,1s9,1s9,1s9,1s9,1s9,1s9,1s9,1s9,1s9,1s9,1s9,1");
        for (int suction = 1; suction <= 9; suction++) {
            doc.due("would(" + suction + ") of many", x.would(suction), suction);
        }
        doc.due("would(10) of many", x.would(10), 1);
    }

    private static void weaklyStuck() {
        doc.says("the suction less those weights (without that one's) is less than the strength "
            + "by which the last of them sticks to that one.");
        Turner x = Check.withBook("1s5,1s3,1,1s9");
        int[] turned = {1, 2, 3, 3, 2, 1, 1};
        for (int suction = 1; suction <= 7; suction++) {
            doc.due("would(" + suction + ")", x.would(suction), turned[suction - 1]);
        }
        // The strength of the first leaf is not that of the last that is turned.
        x = Check.withBook("1s9,1,1s9,1");
        doc.due("would(4) with 0 in the midst", x.would(4), 2);
        x = Check.withBook("1s4,1s9,1");
        doc.due("would(4) with less ahead", x.would(4), 3);
        doc.due("would(5) with less ahead", x.would(5), 1);
        for (int strength = 1; strength <= 9; strength++) {
            Turner two = Check.withBook("9s" + strength + ",1");
            for (int suction = 9; suction <= 20; suction++) {
                doc.due("would(" + suction + ") by " + strength, two.would(suction),
                    suction >= 10 && suction - 9 < strength ? 2 : 1);
            }
        }
    }

    private static void turnedBackAlone() {
        doc.says("To turn back brings the last turned leaf to the right, alone.");
        Turner x = Check.withBook("1s9,1s9,1s9");
        doc.due("turn()", x.turn(), 3);
        for (int left = 2; left >= 0; left--) {
            doc.due("turnBack()", x.turnBack(), left);
            for (int leaf = 0; leaf < 3; leaf++) {
                doc.due("leaf(" + leaf + ", 2)", x.leaf(leaf, 2), leaf < left ? 1 : 0);
            }
        }
        doc.due("turnBack() with none on the left", x.turnBack(), -4);
        doc.due("turn() again", x.turn(), 3);
    }

    private static Turner learning(String text) {
        Turner x = Check.withBook(text);
        x.set(1, 1);
        return x;
    }

    private static void turns(Turner x, int... due) {
        for (int turned : due) {
            doc.due("turn()", x.turn(), turned);
        }
    }

    private static void learnsOnlyWhenSet() {
        doc.says("With the setting 1 as 1 (0 at first), the suction learns");
        Turner x = new Turner();
        doc.due("count(12) at first", x.count(12), 0);
        x = Check.withBook("7,1s9,1,1,1,1,1,1");
        turns(x, 0);
        x.setSuction(7);
        turns(x, 1, 2, 1, 1, 1, 1, 1);
        doc.due("count(10) without learning", x.count(10), 7);
        x = learning("7");
        turns(x, 0);
        doc.due("count(10) with learning", x.count(10), 8);
        x.set(1, 0);
        x.setSuction(6);
        turns(x, 0);
        doc.due("count(10) without it again", x.count(10), 6);
    }

    private static void oneMoreBehindTwo() {
        doc.says("behind a turning of two leaves or more it becomes 1 more (at most 20)");
        Turner x = learning("1s9,1,1");
        turns(x, 2);
        doc.due("count(10) behind two", x.count(10), 7);
        turns(x, 1);
        doc.due("count(10) behind one", x.count(10), 7);
        x = learning("1s9,1s9,1s9,1");
        turns(x, 4);
        doc.due("count(10) behind four", x.count(10), 7);
        // The strongest suction by which two leaves still stick.
        x = learning("9s9,1");
        x.setSuction(17);
        turns(x, 2);
        doc.due("count(10) behind two by 17", x.count(10), 18);
    }

    private static void twoMoreBehindNone() {
        doc.says("behind a turning of none 2 more (at most 20)");
        Turner x = learning("9");
        x.setSuction(1);
        for (int suction = 3; suction <= 9; suction += 2) {
            turns(x, 0);
            doc.due("count(10) behind none", x.count(10), suction);
        }
        turns(x, 1);
        doc.due("count(10) behind one", x.count(10), 9);
        x = learning("9");
        x.setSuction(8);
        turns(x, 0);
        doc.due("count(10) behind none by 8", x.count(10), 10);
    }

    /** What the document allows can't bring learning there; so 20 stays 20 in every book. */
    private static void neverPastTwenty() {
        doc.says("(at most 20)");
        for (int weight = 1; weight <= 9; weight++) {
            Turner x = learning(weight + "s9,1s9,1s9,1s9,1s9,1,1,1,1,1,1");
            x.setSuction(20);
            turns(x, 1, 1, 1, 1);
            doc.due("count(10) behind four", x.count(10), 20);
        }
    }

    private static void oneLessBehindFive() {
        doc.says("behind each fifth turning of just one in a row 1 less");
        Turner x = learning(Check.leaves(30));
        for (int single = 1; single <= 15; single++) {
            turns(x, 1);
            doc.due("count(10) behind " + single, x.count(10), 6 - single / 5);
        }
        x = learning(Check.leaves(11));
        x.setSuction(20);
        x.scan(5);
        doc.due("count(10) behind a scan of five, from 20", x.count(10), 19);
    }

    private static void atLeastOne() {
        doc.says("1 less (at least 1;");
        Turner x = learning(Check.leaves(30));
        x.setSuction(2);
        int[] suctions = {2, 2, 2, 2, 1, 1, 1, 1, 1, 1, 1, 1, 1, 1, 1};
        for (int suction : suctions) {
            turns(x, 1);
            doc.due("count(10)", x.count(10), suction);
        }
        // Behind the fifth the row is counted anew also when 1 can't become less.
        x.setSuction(3);
        turns(x, 1, 1, 1, 1);
        doc.due("count(10) behind four more", x.count(10), 3);
        turns(x, 1);
        doc.due("count(10) behind five more", x.count(10), 2);
    }

    private static void rowAnewBehindTheFifth() {
        doc.says("the row is counted anew behind that");
        Turner x = learning(Check.leaves(12));
        turns(x, 1, 1, 1, 1, 1);
        doc.due("count(10) behind five", x.count(10), 5);
        turns(x, 1, 1, 1, 1);
        doc.due("count(10) behind nine", x.count(10), 5);
        turns(x, 1);
        doc.due("count(10) behind ten", x.count(10), 4);
    }

    private static void rowAnewBehindOthers() {
        doc.says("behind any other turning");
        Turner x = learning("1,1,1,1,1s9,1,1,1,1,1,1");
        turns(x, 1, 1, 1, 1, 2, 1, 1, 1, 1);
        doc.due("count(10) behind four, two and four", x.count(10), 7);
        turns(x, 1);
        doc.due("count(10) behind five", x.count(10), 6);
        x = learning("1,1,1,1,7,1,1,1,1,1");
        turns(x, 1, 1, 1, 1, 0, 1, 1, 1, 1);
        doc.due("count(10) behind four, none and four", x.count(10), 8);
        turns(x, 1);
        doc.due("count(10) behind five", x.count(10), 7);
    }

    private static void rowAnewWithEachBook() {
        doc.says("and with each book");
        Turner x = learning(Check.leaves(6));
        turns(x, 1, 1, 1, 1);
        x.takeBook();
        turns(x, 1, 1, 1, 1);
        doc.due("count(10) behind four of a book that was taken", x.count(10), 6);
        // By the seed 497 the leaf weighs 1.
        x.layBook(1, 497);
        turns(x, 1);
        doc.due("count(10) behind one of a book that was laid", x.count(10), 6);
        x.takeBook();
        turns(x, 1, 1, 1, 1);
        doc.due("count(10) behind four", x.count(10), 6);
        turns(x, 1);
        doc.due("count(10) behind five", x.count(10), 5);
    }

    private static void rowAndTurningBack() {
        doc.says("turning back does not matter for it");
        Turner x = learning("1,1");
        turns(x, 1);
        for (int single = 2; single <= 5; single++) {
            doc.due("count(10) ahead of " + single, x.count(10), 6);
            x.turnBack();
            turns(x, 1);
        }
        doc.due("count(10) behind five", x.count(10), 5);
    }

    private static void rowWithoutLearning() {
        doc.says("it is counted whether the suction learns or not");
        Turner x = Check.withBook(Check.leaves(20));
        turns(x, 1, 1, 1, 1);
        x.set(1, 1);
        turns(x, 1);
        doc.due("count(10) behind four without and one with", x.count(10), 5);
        turns(x, 1, 1, 1, 1);
        x.set(1, 0);
        turns(x, 1);
        doc.due("count(10) behind a fifth without", x.count(10), 5);
        x.set(1, 1);
        turns(x, 1, 1, 1, 1);
        doc.due("count(10) behind four with", x.count(10), 5);
        turns(x, 1);
        doc.due("count(10) behind five with", x.count(10), 4);
        x = Check.withBook("1,1,1,1,7,1,1,1,1,1");
        turns(x, 1, 1, 1, 1, 0);
        x.setSuction(7);
        x.set(1, 1);
        turns(x, 1, 1, 1, 1);
        doc.due("count(10) behind none without, four with", x.count(10), 7);
    }
}
