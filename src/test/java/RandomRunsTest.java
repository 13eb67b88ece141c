import java.util.Random;

/** Promises 1 to 24: runs of calls, always the same ones, with the model's answers as due. */
public final class RandomRunsTest {
    private static final Check CHECK = new Check("RandomRunsTest");
    private static final int RUNS = 1600;
    private static final int CALLS_OF_ASK = 8;
    private static final int CALLS_OF_TEXT = 2 + 31 * 6;

    private final Random random;
    private final int run;
    private Turner x = new Turner();
    private Model model = new Model();

    private RandomRunsTest(int run) {
        this.run = run;
        random = new Random(run);
    }

    public static void main(String[] args) {
        for (int run = 0; run < RUNS; run++) {
            new RandomRunsTest(run).play();
        }
        CHECK.end();
    }

    private void play() {
        while (x.callsLeft() > 0) {
            if (random.nextInt(3) == 0 && x.callsLeft() >= CALLS_OF_ASK) {
                ask();
            } else {
                change();
            }
        }
    }

    private void due(String call, int got, int want) {
        CHECK.due("run " + run + ": " + call, got, want);
    }

    private int near(int least, int most) {
        if (random.nextInt(40) == 0) {
            int[] far = {Integer.MIN_VALUE, Integer.MAX_VALUE, -5, -1, least - 1, most + 1};
            return far[random.nextInt(far.length)];
        }
        return least + random.nextInt(Math.max(1, most - least + 1));
    }

    private void change() {
        switch (random.nextInt(run % 2 == 0 ? 24 : 40)) {
            case 0 -> typeText();
            case 1 -> layBook();
            case 2 -> due("takeBook()", x.takeBook(), model.takeBook());
            case 3, 4 -> print();
            case 5, 6, 7 -> due("turnBack()", x.turnBack(), model.turnBack());
            case 8 -> scan();
            case 9, 10 -> throwAway();
            case 11 -> setSuction();
            case 12 -> set(0, near(0, 10));
            case 13 -> set(1, near(0, 2));
            case 14 -> set(2, random.nextInt(4) == 0 ? near(0, 99) : near(0, 4));
            case 15 -> due("undo()", x.undo(), model.undo());
            case 16 -> due("keep()", x.keep(), model.keep());
            case 17 -> due("restore()", x.restore(), model.restore());
            case 18 -> set(near(0, 2), near(0, 1));
            case 19, 20, 21, 22, 23, 24, 25 -> due("shoot()", x.shoot(), model.shoot());
            default -> due("turn()", x.turn(), model.turn());
        }
    }

    private void typeText() {
        if (x.callsLeft() < CALLS_OF_TEXT) {
            return;
        }
        if (random.nextInt(4) != 0) {
            due("clearText()", x.clearText(), model.clearText());
        }
        int leaves = 1 + random.nextInt(random.nextInt(5) == 0 ? 31 : 6);
        for (int leaf = 0; leaf < leaves; leaf++) {
            if (leaf > 0) {
                type(',');
            }
            type((char) ('1' + random.nextInt(random.nextInt(5) == 0 ? 9 : 4)));
            if (random.nextInt(leaves < 12 ? 2 : 9) == 0) {
                type('s');
                type((char) ('1' + random.nextInt(9)));
            }
            if (random.nextInt(leaves < 12 ? 3 : 12) == 0) {
                type(random.nextBoolean() ? '*' : '!');
            }
            if (random.nextInt(150) == 0) {
                type("0s*!,1 x\0".charAt(random.nextInt(9)));
            }
        }
        due("takeBook()", x.takeBook(), model.takeBook());
    }

    private void type(char sign) {
        due("type(" + (int) sign + ")", x.type(sign), model.type(sign));
    }

    private void layBook() {
        int leaves = near(1, 30);
        int seed = near(0, 9999);
        due("layBook(" + leaves + ", " + seed + ")", x.layBook(leaves, seed),
            model.layBook(leaves, seed));
    }

    private void print() {
        int page = near(0, 2 * model.count(0) - 1);
        int number = random.nextInt(4) == 0 ? -5 : near(0, random.nextInt(3) == 0 ? 199 : 62);
        due("print(" + page + ", " + number + ")", x.print(page, number), model.print(page, number));
    }

    private void scan() {
        int times = random.nextInt(3) == 0 ? near(1, 60) : near(1, 12);
        due("scan(" + times + ")", x.scan(times), model.scan(times));
    }

    private void throwAway() {
        int picture = near(0, model.count(2) - 1);
        due("throwAway(" + picture + ")", x.throwAway(picture), model.throwAway(picture));
    }

    private void setSuction() {
        int suction = near(1, 20);
        due("setSuction(" + suction + ")", x.setSuction(suction), model.setSuction(suction));
    }

    private void set(int which, int value) {
        due("set(" + which + ", " + value + ")", x.set(which, value), model.set(which, value));
    }

    private void ask() {
        int what = near(0, 16);
        due("count(" + what + ")", x.count(what), model.count(what));
        int leaf = near(0, model.count(0) - 1);
        what = near(0, 2);
        due("leaf(" + leaf + ", " + what + ")", x.leaf(leaf, what), model.leaf(leaf, what));
        int page = near(0, 2 * model.count(0) - 1);
        what = near(0, 4);
        due("page(" + page + ", " + what + ")", x.page(page, what), model.page(page, what));
        int picture = near(0, model.count(2) - 1);
        what = near(0, 6);
        due("picture(" + picture + ", " + what + ")", x.picture(picture, what),
            model.picture(picture, what));
        int side = near(0, 1);
        due("open(" + side + ")", x.open(side), model.open(side));
        int suction = near(1, 20);
        due("would(" + suction + ")", x.would(suction), model.would(suction));
        due("best()", x.best(), model.best());
        int rank = near(0, random.nextBoolean() ? 60 : 4);
        due("lacking(" + rank + ")", x.lacking(rank), model.lacking(rank));
    }
}
