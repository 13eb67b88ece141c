/** Promises 12 to 17 and 24: type, clearText, undo, keep, restore, leaf, count. */
public final class HistoryTest {
    private static final Check CHECK = new Check("HistoryTest");

    public static void main(String[] args) {
        typeTypes();
        clearTextEmpties();
        textIsNoState();
        undoGoesBack();
        undoOfEachAct();
        undoKeepsFour();
        undoBringsTheRowBack();
        keepAndRestore();
        snapshotStays();
        keepTakesThePlace();
        keepOfNoBook();
        restoreIsAnAct();
        askingChangesNothing();
        leafTells();
        countTells();
        CHECK.end();
    }

    private static void typeTypes() {
        Turner x = new Turner();
        char[] any = {'1', ',', 's', ' ', '\0', '\n', 255, 256, 65535};
        for (int i = 0; i < 60; i++) {
            CHECK.due("type", x.type(any[i % any.length]), i + 1);
        }
        CHECK.due("type with 60", x.type('1'), -3);
        CHECK.due("type with 60, any", x.type((char) 65535), -3);
        CHECK.due("count(16)", x.count(16), 60);
        CHECK.due("no act", x.count(15), 0);
        Check.type(x, "1,9s");
        x.type('5');
        CHECK.due("typed behind", x.takeBook(), 2);
        CHECK.due("leaf(1, 1)", x.leaf(1, 1), 5);
    }

    private static void clearTextEmpties() {
        Turner x = new Turner();
        CHECK.due("clearText() at first", x.clearText(), 0);
        x.type('1');
        x.type('x');
        CHECK.due("clearText()", x.clearText(), 2);
        CHECK.due("clearText() again", x.clearText(), 0);
        CHECK.due("count(16)", x.count(16), 0);
        CHECK.due("nothing is left of it", x.takeBook(), -100);
        x.type('2');
        CHECK.due("typed anew", x.takeBook(), 1);
        CHECK.due("neither is an act", x.count(15), 1);
    }

    private static void textIsNoState() {
        Turner x = new Turner();
        Check.type(x, "1");
        x.keep();
        x.takeBook();
        Check.type(x, "1,1,1");
        x.undo();
        CHECK.due("undo leaves the text", x.count(16), 5);
        x.restore();
        CHECK.due("restore leaves the text", x.count(16), 5);
        CHECK.due("takeBook()", x.takeBook(), 3);
    }

    private static void undoGoesBack() {
        Turner x = new Turner();
        CHECK.due("undo() at first", x.undo(), -5);
        x.setSuction(9);
        x.set(0, 4);
        x.layBook(3, 3);
        CHECK.due("undo()", x.undo(), 2);
        CHECK.due("no book", x.count(0), 0);
        CHECK.due("count(15)", x.count(15), 2);
        CHECK.due("undo()", x.undo(), 1);
        CHECK.due("count(11)", x.count(11), 2);
        CHECK.due("count(10)", x.count(10), 9);
        CHECK.due("undo()", x.undo(), 0);
        CHECK.due("count(10)", x.count(10), 6);
        CHECK.due("undo() with none left", x.undo(), -5);
    }

    private static Turner inTheMidst() {
        Turner x = Check.withBook("1,2s9,1*,3!,1,9");
        x.set(2, 2);
        x.scan(2);
        x.turnBack();
        x.shoot();
        x.print(1, 17);
        x.keep();
        x.setSuction(8);
        return x;
    }

    private static void undoOfEachAct() {
        for (int number = 0; number < 12; number++) {
            Turner x = inTheMidst();
            String before = Check.told(inTheMidst());
            CHECK.holds("act " + number + " is no error", act(x, number) >= 0);
            CHECK.due("states behind act " + number, x.count(15), 4);
            CHECK.holds("act " + number + " changes", !before.equals(Check.told(x)));
            CHECK.due("undo() of act " + number, x.undo(), 3);
            CHECK.holds("undo() of act " + number + " brings all back",
                before.equals(Check.told(x)));
        }
    }

    private static int act(Turner x, int number) {
        switch (number) {
            case 0:
                return x.takeBook();
            case 1:
                return x.layBook(7, 7);
            case 2:
                return x.print(0, 9);
            case 3:
                return x.turn();
            case 4:
                return x.turnBack();
            case 5:
                return x.shoot();
            case 6:
                return x.scan(3);
            case 7:
                return x.throwAway(2);
            case 8:
                return x.setSuction(5);
            case 9:
                return x.set(0, 5);
            case 10:
                return x.set(1, 1);
            default:
                return x.restore();
        }
    }

    private static void undoKeepsFour() {
        Turner x = new Turner();
        for (int suction = 7; suction <= 20; suction++) {
            x.setSuction(suction);
            CHECK.due("count(15)", x.count(15), Math.min(4, suction - 6));
        }
        for (int left = 3; left >= 0; left--) {
            CHECK.due("undo()", x.undo(), left);
            CHECK.due("count(10)", x.count(10), 16 + left);
        }
        CHECK.due("undo() with none left", x.undo(), -5);
        x.setSuction(1);
        x.setSuction(2);
        CHECK.due("undo() of new ones", x.undo(), 1);
        CHECK.due("count(10)", x.count(10), 1);
        for (int suction = 3; suction <= 9; suction++) {
            x.setSuction(suction);
        }
        int[] due = {8, 7, 6, 5};
        for (int suction : due) {
            x.undo();
            CHECK.due("count(10)", x.count(10), suction);
        }
    }

    private static void undoBringsTheRowBack() {
        Turner x = Check.withBook("1,1,1,1,7,1");
        x.set(1, 1);
        x.scan(4);
        CHECK.due("a turning of none ends the row", x.turn(), 0);
        CHECK.due("undo()", x.undo(), 3);
        x.setSuction(7);
        CHECK.due("the fifth in the row", x.turn(), 1);
        CHECK.due("1 less", x.count(10), 6);
    }

    private static void keepAndRestore() {
        Turner x = new Turner();
        CHECK.due("restore() at first", x.restore(), -5);
        CHECK.due("not recorded", x.count(15), 0);
        Check.type(x, "1,2s9,1*,3!,1,9");
        x.takeBook();
        x.scan(2);
        x.set(0, 1);
        String kept = Check.told(x);
        CHECK.due("keep()", x.keep(), 3);
        CHECK.due("keep() is no act", x.count(15), 3);
        for (int number = 0; number < 11; number++) {
            act(x, number);
        }
        CHECK.due("restore()", x.restore(), 3);
        CHECK.holds("all is as it was kept", kept.equals(Check.told(x)));
        CHECK.due("restore() of the same", x.restore(), 3);
    }

    private static void snapshotStays() {
        Turner x = inTheMidst();
        x.restore();
        x.layBook(30, 1);
        x.scan(20);
        CHECK.due("the snapshot stays", x.restore(), 5);
        Turner kept = inTheMidst();
        kept.undo();
        CHECK.holds("all is as it was kept", Check.told(x).equals(Check.told(kept)));
    }

    private static void keepTakesThePlace() {
        Turner x = inTheMidst();
        x.shoot();
        CHECK.due("keep() in its place", x.keep(), 7);
        String later = Check.told(x);
        x.layBook(1, 1);
        CHECK.due("restore()", x.restore(), 7);
        CHECK.holds("the later one", later.equals(Check.told(x)));
    }

    private static void keepOfNoBook() {
        Turner x = new Turner();
        CHECK.due("keep() without a book", x.keep(), 0);
        x.layBook(5, 5);
        x.scan(60);
        x.setSuction(2);
        CHECK.due("restore()", x.restore(), 0);
        CHECK.due("no leaves", x.count(0), 0);
        CHECK.due("the first suction", x.count(10), 6);
        CHECK.due("shoot()", x.shoot(), -4);
        CHECK.due("page(0, 0)", x.page(0, 0), -1);
    }

    private static void restoreIsAnAct() {
        Turner x = new Turner();
        x.keep();
        CHECK.due("restore() of the same", x.restore(), 0);
        CHECK.due("it is recorded", x.count(15), 1);
        x.setSuction(9);
        x.restore();
        CHECK.due("count(10)", x.count(10), 6);
        CHECK.due("count(15)", x.count(15), 3);
        CHECK.due("undo()", x.undo(), 2);
        CHECK.due("count(10)", x.count(10), 9);
        CHECK.due("undo leaves the snapshot", x.restore(), 0);
        CHECK.due("count(10)", x.count(10), 6);
    }

    private static void askingChangesNothing() {
        Turner x = inTheMidst();
        String before = Check.told(x);
        for (int rank = -1; rank < 5; rank++) {
            x.lacking(rank);
        }
        x.leaf(99, 99);
        x.page(99, 99);
        x.picture(99, 99);
        x.open(99);
        x.would(99);
        x.count(99);
        x.keep();
        x.type('1');
        x.clearText();
        CHECK.holds("nothing is changed", before.equals(Check.told(x)));
        CHECK.due("nothing is recorded", x.undo(), 3);
        CHECK.due("but the last act", x.count(10), 6);
    }

    private static void leafTells() {
        Turner x = Check.withBook("4s3,9,5s9");
        int[][] told = {{4, 3}, {9, 0}, {5, 9}};
        x.turn();
        for (int leaf = 0; leaf < 3; leaf++) {
            CHECK.due("leaf(" + leaf + ", 0)", x.leaf(leaf, 0), told[leaf][0]);
            CHECK.due("leaf(" + leaf + ", 1)", x.leaf(leaf, 1), told[leaf][1]);
            CHECK.due("leaf(" + leaf + ", 2)", x.leaf(leaf, 2), leaf == 0 ? 1 : 0);
        }
        int[] wrong = {-1, 3, 30, Integer.MIN_VALUE, Integer.MAX_VALUE};
        for (int leaf : wrong) {
            CHECK.due("leaf(" + leaf + ", 0)", x.leaf(leaf, 0), -1);
            CHECK.due("leaf(" + leaf + ", 3)", x.leaf(leaf, 3), -1);
        }
        int[] wrongWhat = {-1, 3, Integer.MIN_VALUE, Integer.MAX_VALUE};
        for (int what : wrongWhat) {
            CHECK.due("leaf(0, " + what + ")", x.leaf(0, what), -2);
        }
        x.turnBack();
        CHECK.due("leaf(0, 2) turned back", x.leaf(0, 2), 0);
    }

    private static void countTells() {
        Turner x = Check.withBook("1,2s9,1*,3!,7,9");
        x.set(0, 3);
        x.set(1, 1);
        x.set(2, 2);
        x.scan(4);
        x.shoot();
        // One leaf, two by 6 (then 7), one, one by 7: the pages 0, 1 2, 5 6, 7 8 and 9 10 are
        // taken and guessed as none, none 1, 2 7, 8 9, 8 9.
        int[] counts = {6, 5, 9, 7, 5, 4, 2, 4, 1, 0, 7, 3, 1, 2, 5, 4, 15};
        for (int what = 0; what < counts.length; what++) {
            CHECK.due("count(" + what + ")", x.count(what), counts[what]);
        }
        x.turn();
        CHECK.due("a turning of none", x.count(9), 1);
        CHECK.due("turnings", x.count(7), 5);
        int[] wrong = {-1, 17, 99, Integer.MIN_VALUE, Integer.MAX_VALUE};
        for (int what : wrong) {
            CHECK.due("count(" + what + ")", x.count(what), -2);
        }
    }
}
