/** Promises 5, 6, 10, 11, 20, 21, 22: turn, turnBack, setSuction, set, open, would, best. */
public final class TurningTest {
    private static final Check CHECK = new Check("TurningTest");

    public static void main(String[] args) {
        turnsOneAfterAnother();
        turnsMoreThatStick();
        turnsNoneThatIsHeavy();
        strongSuctionShakesApart();
        turnBackBringsOne();
        setSuctionSets();
        setSettings();
        openTells();
        wouldTells();
        bestTells();
        learnsFromNone();
        learnsFromMore();
        learnsFromFiveSingles();
        rowIsCountedAnew();
        rowIsCountedWithoutLearning();
        CHECK.end();
    }

    private static void turnsOneAfterAnother() {
        Turner x = Check.withBook("1,6,2");
        for (int leaf = 0; leaf < 3; leaf++) {
            CHECK.due("leaf not turned", x.leaf(leaf, 2), 0);
            CHECK.due("turn()", x.turn(), 1);
            CHECK.due("leaf turned", x.leaf(leaf, 2), 1);
            CHECK.due("on the left", x.count(1), leaf + 1);
            CHECK.due("states", x.count(15), leaf + 2);
        }
        CHECK.due("turn() with none on the right", x.turn(), -4);
        CHECK.due("turnings", x.count(7), 3);
        CHECK.due("turnings of more", x.count(8), 0);
        CHECK.due("turnings of none", x.count(9), 0);
        CHECK.due("not recorded", x.count(15), 4);
        CHECK.due("without a book", new Turner().turn(), -4);
    }

    private static void turnsMoreThatStick() {
        Turner x = Check.withBook("2s9,1s9,3s9,1s9,1");
        CHECK.due("2 + 1 + 3 are 6, one more is too heavy", x.turn(), 3);
        CHECK.due("on the left", x.count(1), 3);
        CHECK.due("turnings of more", x.count(8), 1);
        CHECK.due("up to the last leaf", x.turn(), 2);
        CHECK.due("turnings of more", x.count(8), 2);
        CHECK.due("turnings", x.count(7), 2);
        CHECK.due("all on the left", x.count(1), 5);
        Turner one = Check.withBook("2s9");
        CHECK.due("the last leaf's strength does not matter", one.turn(), 1);
    }

    private static void turnsNoneThatIsHeavy() {
        Turner x = Check.withBook("7,1");
        CHECK.due("turn()", x.turn(), 0);
        CHECK.due("on the left", x.count(1), 0);
        CHECK.due("turnings", x.count(7), 1);
        CHECK.due("turnings of none", x.count(9), 1);
        CHECK.due("a turning of none is an act", x.count(15), 2);
        x.setSuction(7);
        CHECK.due("turn() by its weight", x.turn(), 1);
        CHECK.due("turnings of none", x.count(9), 1);
    }

    private static void strongSuctionShakesApart() {
        // 2 sticks to 2 by 4: from the suction 4 on both are light enough, from 6 on they part.
        Turner x = Check.withBook("2s4,2");
        int[] turned = {0, 1, 1, 2, 2, 1, 1};
        for (int suction = 1; suction <= turned.length; suction++) {
            x.setSuction(suction);
            CHECK.due("turn() by " + suction, x.turn(), turned[suction - 1]);
            x.takeBook();
        }
        Turner y = Check.withBook("1s9,1,1");
        CHECK.due("0 does not stick", y.turn(), 2);
        Turner z = Check.withBook("5s2,1s9,1");
        CHECK.due("6 - 5 is less than 2, but 1 more is too heavy", z.turn(), 2);
        // The second leaf parts from the third: what comes behind that does not come with it.
        Turner w = Check.withBook("1s6,1s4,1s9,1");
        CHECK.due("6 - 2 is not less than 4", w.turn(), 2);
    }

    private static void turnBackBringsOne() {
        Turner x = Check.withBook("2s9,1s9,3");
        CHECK.due("turnBack() at first", x.turnBack(), -4);
        CHECK.due("not recorded", x.count(15), 1);
        x.turn();
        CHECK.due("turnBack()", x.turnBack(), 2);
        CHECK.due("leaf(2, 2)", x.leaf(2, 2), 0);
        CHECK.due("leaf(1, 2)", x.leaf(1, 2), 1);
        CHECK.due("turnBack()", x.turnBack(), 1);
        CHECK.due("turnBack()", x.turnBack(), 0);
        CHECK.due("turnBack() with none", x.turnBack(), -4);
        CHECK.due("turning back is no turning", x.count(7), 1);
        CHECK.due("undo()", x.undo(), 3);
        CHECK.due("on the left", x.count(1), 1);
        CHECK.due("without a book", new Turner().turnBack(), -4);
    }

    private static void setSuctionSets() {
        Turner x = new Turner();
        CHECK.due("setSuction(6)", x.setSuction(6), -5);
        int[] wrong = {0, -1, 21, Integer.MIN_VALUE, Integer.MAX_VALUE};
        for (int suction : wrong) {
            CHECK.due("setSuction(" + suction + ")", x.setSuction(suction), -2);
        }
        CHECK.due("none is recorded", x.count(15), 0);
        CHECK.due("setSuction(1)", x.setSuction(1), 6);
        CHECK.due("setSuction(20)", x.setSuction(20), 1);
        CHECK.due("setSuction(20)", x.setSuction(20), -5);
        CHECK.due("count(10)", x.count(10), 20);
        CHECK.due("two states", x.count(15), 2);
    }

    private static void setSettings() {
        Turner x = new Turner();
        int[] first = {2, 0, 1};
        int[] most = {10, 1, 99};
        for (int which = 0; which < 3; which++) {
            String call = "set(" + which + ", ";
            CHECK.due(call + "-1)", x.set(which, -1), -2);
            CHECK.due(call + "more than most)", x.set(which, most[which] + 1), -2);
            CHECK.due(call + "the least int)", x.set(which, Integer.MIN_VALUE), -2);
            CHECK.due(call + "first)", x.set(which, first[which]), -5);
            CHECK.due(call + "most)", x.set(which, most[which]), first[which]);
            CHECK.due("count(" + (11 + which) + ")", x.count(11 + which), most[which]);
            CHECK.due(call + "0)", x.set(which, 0), most[which]);
            CHECK.due(call + "0) again", x.set(which, 0), -5);
            CHECK.due("count(" + (11 + which) + ")", x.count(11 + which), 0);
        }
        int[] noSettings = {-1, 3, Integer.MIN_VALUE, Integer.MAX_VALUE};
        for (int which : noSettings) {
            CHECK.due("set(" + which + ", 0)", x.set(which, 0), -2);
        }
        Turner y = new Turner();
        y.set(0, 2);
        y.set(2, 100);
        CHECK.due("not recorded", y.count(15), 0);
        y.set(2, 99);
        CHECK.due("recorded", y.count(15), 1);
    }

    private static void openTells() {
        Turner x = Check.withBook("1,1s9,1");
        int[][] open = {{-5, 0}, {1, 2}, {5, -5}};
        for (int[] sides : open) {
            CHECK.due("open(0)", x.open(0), sides[0]);
            CHECK.due("open(1)", x.open(1), sides[1]);
            x.turn();
        }
        x.turnBack();
        CHECK.due("open(0) turned back", x.open(0), 3);
        CHECK.due("open(1) turned back", x.open(1), 4);
        int[] wrong = {-1, 2, Integer.MIN_VALUE, Integer.MAX_VALUE};
        for (int side : wrong) {
            CHECK.due("open(" + side + ")", x.open(side), -2);
            CHECK.due("open(" + side + ") without a book", new Turner().open(side), -2);
        }
    }

    private static void wouldTells() {
        Turner x = Check.withBook("3,2s4,2s9,5,1");
        x.turn();
        int[] turned = {0, 1, 1, 2, 2, 1, 1, 1, 1, 1};
        for (int suction = 1; suction <= 10; suction++) {
            CHECK.due("would(" + suction + ")", x.would(suction), turned[suction - 1]);
        }
        CHECK.due("would(20)", x.would(20), 1);
        int[] wrong = {0, -1, 21, Integer.MIN_VALUE, Integer.MAX_VALUE};
        for (int suction : wrong) {
            CHECK.due("would(" + suction + ")", x.would(suction), -2);
            CHECK.due("would(" + suction + ") without a book", new Turner().would(suction), -2);
        }
        CHECK.due("nothing is turned", x.count(1), 1);
        CHECK.due("nothing is recorded", x.count(15), 2);
        CHECK.due("the suction stays", x.count(10), 6);
        x.setSuction(20);
        CHECK.due("the leaves part", x.turn() + x.turn() + x.turn() + x.turn(), 4);
        CHECK.due("would(5) with none on the right", x.would(5), -4);
        CHECK.due("would(5) without a book", new Turner().would(5), -4);
    }

    private static void bestTells() {
        Turner x = Check.withBook("9s9,2s4,1s9");
        x.setSuction(20);
        int[] best = {9, 2, 1};
        for (int due : best) {
            CHECK.due("best()", x.best(), due);
            CHECK.due("would(best())", x.would(x.best()), 1);
            CHECK.due("turn()", x.turn(), 1);
        }
        CHECK.due("best() with none on the right", x.best(), -4);
        CHECK.due("best() without a book", new Turner().best(), -4);
    }

    private static void learnsFromNone() {
        Turner x = Check.withBook("9");
        CHECK.due("turn()", x.turn(), 0);
        CHECK.due("it does not learn at first", x.count(10), 6);
        x.set(1, 1);
        CHECK.due("turn()", x.turn(), 0);
        CHECK.due("2 more", x.count(10), 8);
        CHECK.due("turn()", x.turn(), 0);
        CHECK.due("2 more", x.count(10), 10);
        CHECK.due("turn()", x.turn(), 1);
        CHECK.due("one in a row is not yet five", x.count(10), 10);
    }

    private static void learnsFromMore() {
        Turner x = Check.withBook("1s9,1,1s9,1s9,1");
        x.set(1, 1);
        CHECK.due("turn()", x.turn(), 2);
        CHECK.due("1 more", x.count(10), 7);
        CHECK.due("turn()", x.turn(), 3);
        CHECK.due("1 more for three, too", x.count(10), 8);
    }

    private static void learnsFromFiveSingles() {
        Turner x = Check.withBook(Check.leaves(30));
        x.set(1, 1);
        for (int i = 1; i <= 30; i++) {
            CHECK.due("turn()", x.turn(), 1);
            CHECK.due("behind " + i + " singles", x.count(10), Math.max(1, 6 - i / 5));
        }
        x.turnBack();
        x.turn();
        CHECK.due("at least 1", x.count(10), 1);
    }

    private static void rowIsCountedAnew() {
        Turner x = Check.withBook("1,1,1,1,7,1,1,1,1,1,1,1,1");
        x.set(1, 1);
        x.scan(4);
        CHECK.due("a turning of none", x.turn(), 0);
        CHECK.due("2 more", x.count(10), 8);
        x.scan(4);
        CHECK.due("four behind that", x.count(10), 8);
        x.turnBack();
        x.turn();
        CHECK.due("turning back does not matter", x.count(10), 7);
        singles(x, 4);
        x.takeBook();
        x.turn();
        CHECK.due("counted anew with a book", x.count(10), 7);
        x.layBook(1, 77);
        x.turn();
        x.takeBook();
        singles(x, 4);
        CHECK.due("counted anew with each book", x.count(10), 7);
        CHECK.due("the fifth", x.turn(), 1);
        CHECK.due("1 less", x.count(10), 6);
        Turner y = Check.withBook("1,1,1,1,1s9,1,1,1,1,1,1");
        y.set(1, 1);
        singles(y, 4);
        CHECK.due("a turning of two", y.turn(), 2);
        singles(y, 4);
        CHECK.due("four behind that", y.count(10), 7);
        singles(y, 1);
        CHECK.due("five behind that", y.count(10), 6);
    }

    private static void singles(Turner x, int howMany) {
        for (int i = 0; i < howMany; i++) {
            CHECK.due("turn()", x.turn(), 1);
        }
    }

    private static void rowIsCountedWithoutLearning() {
        Turner x = Check.withBook(Check.leaves(12));
        singles(x, 4);
        x.set(1, 1);
        singles(x, 1);
        CHECK.due("the fifth, with four that it did not learn of", x.count(10), 5);
        x.set(1, 0);
        singles(x, 5);
        CHECK.due("it does not learn", x.count(10), 5);
        x.set(1, 1);
        singles(x, 1);
        CHECK.due("counted anew behind the fifth", x.count(10), 5);
        x.takeBook();
        singles(x, 4);
        x.setSuction(9);
        singles(x, 1);
        CHECK.due("setting the suction does not matter", x.count(10), 8);
    }
}
