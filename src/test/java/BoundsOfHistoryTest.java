import java.io.IOException;

/** The boundary cases of the terms: history. */
public final class BoundsOfHistoryTest {
    private static Sentences doc;

    public static void main(String[] args) throws IOException {
        doc = new Sentences("BoundsOfHistoryTest", args);
        atMostFour();
        oldestIsDropped();
        undoRemovesTheLatest();
        actsAreRecorded();
        actsThatAnswerZero();
        errorsAreNotRecorded();
        othersAreNotRecorded();
        oneSnapshot();
        snapshotIsEmptyAtFirst();
        textIsNoState();
        historyIsNoState();
        snapshotIsNoState();
        allElseIsState();
        rowOfSinglesIsState();
        doc.end();
    }

    private static void atMostFour() {
        doc.says("A history of at most 4 states is kept");
        Turner x = new Turner();
        doc.due("count(15) at first", x.count(15), 0);
        doc.due("undo() at first", x.undo(), -5);
        for (int acts = 1; acts <= 9; acts++) {
            x.setSuction(6 + acts);
            doc.due("count(15) behind " + acts, x.count(15), Math.min(acts, 4));
        }
    }

    private static void oldestIsDropped() {
        doc.says("when one more is recorded, the oldest one is dropped");
        Turner x = new Turner();
        for (int suction = 7; suction <= 11; suction++) {
            x.setSuction(suction);
        }
        for (int left = 3; left >= 0; left--) {
            doc.due("undo() of five", x.undo(), left);
            doc.due("count(10)", x.count(10), 7 + left);
        }
        doc.due("undo() of the dropped one", x.undo(), -5);
        doc.due("count(10)", x.count(10), 7);
        // Once more behind undoing, with the room of the history used again.
        for (int suction = 8; suction <= 14; suction++) {
            x.setSuction(suction);
        }
        for (int left = 3; left >= 0; left--) {
            doc.due("undo() of seven", x.undo(), left);
            doc.due("count(10)", x.count(10), 10 + left);
        }
        doc.due("undo() of the dropped ones", x.undo(), -5);
    }

    private static void undoRemovesTheLatest() {
        doc.says("undo() removes and restores the latest one.");
        Turner x = new Turner();
        x.setSuction(1);
        x.setSuction(2);
        x.setSuction(3);
        doc.due("undo()", x.undo(), 2);
        doc.due("count(10)", x.count(10), 2);
        x.setSuction(9);
        doc.due("count(15)", x.count(15), 3);
        doc.due("undo() of the new one", x.undo(), 2);
        doc.due("count(10)", x.count(10), 2);
        doc.due("undo()", x.undo(), 1);
        doc.due("count(10)", x.count(10), 1);
        doc.due("undo() of the only one", x.undo(), 0);
        doc.due("count(10)", x.count(10), 6);
        doc.due("undo() of none", x.undo(), -5);
        doc.due("count(10)", x.count(10), 6);
    }

    /** One state in the history, all else in use: turned, taken, printed, set, kept. */
    private static Turner inUse() {
        Turner x = new Turner();
        x.set(0, 1);
        x.set(2, 2);
        Check.type(x, "1,2s9,1*,3!,1,9");
        x.takeBook();
        x.scan(2);
        x.turnBack();
        x.shoot();
        x.keep();
        x.throwAway(1);
        x.print(1, 17);
        x.turn();
        for (int suction = 7; suction <= 9; suction++) {
            x.setSuction(suction);
        }
        for (int i = 0; i < 3; i++) {
            x.undo();
        }
        return x;
    }

    private static int act(Turner x, int number) {
        switch (number) {
            case 0:
                return x.takeBook();
            case 1:
                return x.layBook(7, 7);
            case 2:
                return x.print(0, 9);
            case 3:
                return x.turn();
            case 4:
                return x.turnBack();
            case 5:
                return x.shoot();
            case 6:
                return x.scan(3);
            case 7:
                return x.throwAway(2);
            case 8:
                return x.setSuction(5);
            case 9:
                return x.set(0, 5);
            case 10:
                return x.set(1, 1);
            case 11:
                return x.set(2, 0);
            default:
                return x.restore();
        }
    }

    private static void actsAreRecorded() {
        doc.says("Each call of a method that is described as an act, and returns no error and not "
            + "NONE, records the state that was before it.");
        String before = Check.told(inUse());
        for (int number = 0; number <= 12; number++) {
            Turner x = inUse();
            int states = 1;
            doc.due("count(15) ahead of act " + number, x.count(15), states);
            doc.holds("act " + number + " is no error", act(x, number) >= 0);
            doc.due("count(15) behind act " + number, x.count(15), states + 1);
            doc.due("undo() of act " + number, x.undo(), states);
            doc.holds("undo() of act " + number + " restores", before.equals(Check.told(x)));
        }
    }

    private static void recorded(String act, int answer, Turner x, int states) {
        doc.due(act, answer, 0);
        doc.due("count(15) behind " + act, x.count(15), states);
    }

    private static void actsThatAnswerZero() {
        doc.says("returns no error and not NONE, records");
        Turner x = Check.withBook("9,1");
        recorded("turn() of none", x.turn(), x, 2);
        x = Check.withBook("1,1");
        x.turn();
        recorded("turnBack() of the last one", x.turnBack(), x, 3);
        x.shoot();
        x.undo();
        x.undo();
        x.undo();
        x.shoot();
        recorded("throwAway(0) of the last one", x.throwAway(0), x, 3);
        x = Check.withBook("1");
        x.print(0, 0);
        recorded("print(0, 5) in place of 0", x.print(0, 5), x, 3);
        x = new Turner();
        recorded("set(1, 1) in place of 0", x.set(1, 1), x, 1);
        x.keep();
        recorded("restore() of no pictures", x.restore(), x, 2);
    }

    private static void errorsAreNotRecorded() {
        doc.says("and returns no error and not NONE");
        Turner x = Check.withBook("1,1");
        Check.type(x, "1,x");
        int[] answers = {x.takeBook(), x.layBook(0, 0), x.print(4, 1), x.print(0, 200),
            x.print(0, 1), x.turnBack(), x.scan(0), x.throwAway(0), x.setSuction(0),
            x.setSuction(6), x.set(3, 0), x.set(0, 11), x.set(0, 2), x.restore()};
        int[] due = {-102, -2, -1, -2, -5, -4, -2, -1, -2, -5, -2, -2, -5, -5};
        for (int i = 0; i < due.length; i++) {
            doc.due("refused call " + i, answers[i], due[i]);
        }
        doc.due("count(15)", x.count(15), 1);
        x = new Turner();
        doc.due("turn(), shoot(), scan(1) without a book", x.turn() + x.shoot() + x.scan(1), -12);
        doc.due("count(15)", x.count(15), 0);
        x = Check.withBook("1,9");
        x.turn();
        x.scan(40);
        doc.due("shoot(), scan(1) with 80 pictures", x.shoot() + x.scan(1), -6);
        doc.due("count(15)", x.count(15), 3);
    }

    private static void othersAreNotRecorded() {
        doc.says("Each call of a method that is described as an act");
        Turner x = Check.withBook("1,1");
        x.shoot();
        doc.holds("no errors", x.type('1') >= 0 && x.clearText() >= 0 && x.keep() >= 0
            && x.leaf(0, 0) >= 0 && x.page(0, 0) >= 0 && x.picture(0, 0) >= 0 && x.open(1) >= 0
            && x.would(1) >= 0 && x.best() >= 0 && x.lacking(0) >= 0 && x.count(0) >= 0);
        doc.due("count(15)", x.count(15), 2);
        doc.due("undo()", x.undo(), 1);
        doc.due("count(15) behind undo()", x.count(15), 1);
    }

    private static void oneSnapshot() {
        doc.says("There is one snapshot");
        Turner x = Check.withBook("1,1");
        doc.due("keep()", x.keep(), 0);
        x.shoot();
        doc.due("keep() in its place", x.keep(), 1);
        x.shoot();
        doc.due("restore()", x.restore(), 1);
        doc.due("restore() again", x.restore(), 1);
        doc.due("count(2)", x.count(2), 1);
    }

    private static void snapshotIsEmptyAtFirst() {
        doc.says("one snapshot, empty at first.");
        Turner x = new Turner();
        doc.due("restore() at first", x.restore(), -5);
        x.layBook(3, 3);
        doc.due("restore() with a book", x.restore(), -5);
        doc.due("count(0)", x.count(0), 3);
        x.undo();
        doc.due("keep() without a book", x.keep(), 0);
        doc.due("restore() of no book", x.restore(), 0);
    }

    private static void textIsNoState() {
        doc.says("A state is everything but the text");
        Turner x = new Turner();
        Check.type(x, "1");
        x.keep();
        x.takeBook();
        Check.type(x, "1,1,1");
        x.undo();
        doc.due("count(16) behind undo()", x.count(16), 5);
        x.restore();
        doc.due("count(16) behind restore()", x.count(16), 5);
        doc.due("takeBook() of what was typed last", x.takeBook(), 3);
        x.clearText();
        x.undo();
        doc.due("count(16) behind undo()", x.count(16), 0);
    }

    private static void historyIsNoState() {
        doc.says("A state is everything but the text, the history");
        Turner x = new Turner();
        x.setSuction(7);
        x.keep();
        x.setSuction(8);
        x.setSuction(9);
        x.restore();
        doc.due("count(15) behind restore()", x.count(15), 4);
        int[] suctions = {9, 8, 7, 6};
        for (int suction : suctions) {
            x.undo();
            doc.due("count(10)", x.count(10), suction);
        }
        doc.due("undo() of none", x.undo(), -5);
    }

    private static void snapshotIsNoState() {
        doc.says("A state is everything but the text, the history and the snapshot.");
        Turner x = new Turner();
        x.setSuction(7);
        x.keep();
        x.undo();
        doc.due("count(10) behind undo()", x.count(10), 6);
        doc.due("restore() of what was kept behind that state", x.restore(), 0);
        doc.due("count(10)", x.count(10), 7);
        x.setSuction(8);
        x.keep();
        x.undo();
        x.undo();
        x.restore();
        doc.due("count(10), the snapshot not undone", x.count(10), 8);
    }

    private static void allElseIsState() {
        doc.says("A state is everything but");
        for (int number = 0; number <= 12; number++) {
            Turner x = inUse();
            Turner twin = inUse();
            x.keep();
            act(x, number);
            x.restore();
            doc.holds("restore() behind act " + number, Check.told(x).equals(Check.told(twin)));
        }
    }

    private static void rowOfSinglesIsState() {
        doc.says("A state is everything but");
        Turner x = Check.withBook("1,1,1,1,7,1,1,1,1");
        x.set(1, 1);
        x.scan(4);
        x.keep();
        x.turn();
        doc.due("count(10) behind none", x.count(10), 8);
        x.restore();
        x.setSuction(7);
        x.turn();
        doc.due("count(10) behind the fifth", x.count(10), 6);
        x.undo();
        x.turn();
        doc.due("count(10) behind the fifth once more", x.count(10), 6);
    }
}
