/** Counts and prints the answers that are not as due; a test ends with end(). */
final class Check {
    private final String test;
    private int answers = 0;
    private int wrong = 0;

    Check(String test) {
        this.test = test;
    }

    void due(String call, long got, long want) {
        answers++;
        if (got != want) {
            wrong++;
            System.out.println(test + ": " + call + " answered " + got + ", due is " + want);
        }
    }

    void holds(String what, boolean truth) {
        due(what, truth ? 1 : 0, 1);
    }

    void end() {
        if (answers == 0) {
            System.out.println(test + ": nothing was asked");
            System.exit(1);
        }
        System.out.println(test + ": " + answers + " answers, " + wrong + " not as due");
        if (wrong != 0) {
            System.exit(1);
        }
    }

    static void type(Turner x, String text) {
        x.clearText();
        for (int i = 0; i < text.length(); i++) {
            x.type(text.charAt(i));
        }
    }

    static Turner withBook(String text) {
        Turner x = new Turner();
        type(x, text);
        if (x.takeBook() < 1) {
            throw new IllegalStateException("no book: " + text);
        }
        return x;
    }

    /** What takeBook() answers to a text, typed on a new object. */
    static int taken(String text) {
        Turner x = new Turner();
        type(x, text);
        return x.takeBook();
    }

    static Turner withLaid(int leaves, int seed) {
        Turner x = new Turner();
        if (x.layBook(leaves, seed) < 1) {
            throw new IllegalStateException("no book: " + leaves + ", " + seed);
        }
        return x;
    }

    static String leaves(int howMany) {
        StringBuilder text = new StringBuilder("1");
        for (int i = 1; i < howMany; i++) {
            text.append(",1");
        }
        return text.toString();
    }

    /**
     * The answers that tell of the state, but for the states in the history and the text; in the
     * midst of a long row of pictures only some, for the sake of the 512 calls.
     */
    static String told(Turner x) {
        StringBuilder all = new StringBuilder();
        for (int what = 0; what <= 14; what++) {
            all.append(x.count(what)).append(' ');
        }
        int leaves = x.count(0);
        for (int leaf = 0; leaf < leaves; leaf++) {
            for (int what = 0; what <= 2; what++) {
                all.append(x.leaf(leaf, what)).append(' ');
            }
        }
        for (int page = 0; page < 2 * leaves; page++) {
            for (int what = 0; what <= 4; what++) {
                all.append(x.page(page, what)).append(' ');
            }
        }
        int pictures = x.count(2);
        for (int picture = 0; picture < pictures; picture++) {
            boolean atAnEnd = picture < 10 || picture >= pictures - 10;
            for (int what = atAnEnd ? 0 : 6; what <= 6; what++) {
                all.append(x.picture(picture, what)).append(' ');
            }
        }
        for (int suction = 1; suction <= 20; suction++) {
            all.append(x.would(suction)).append(' ');
        }
        return all.append(x.best()).toString();
    }
}
