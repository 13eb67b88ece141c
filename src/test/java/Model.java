import java.util.ArrayDeque;
import java.util.ArrayList;
import java.util.Deque;
import java.util.List;
import java.util.regex.Matcher;
import java.util.regex.Pattern;

/**
 * The document once more, written in another way (copied states, lists, patterns) and with no
 * thought of room, for RandomRunsTest to ask both.
 */
final class Model {
    private record Shot(int page, int number, boolean good, int pair) { }

    private record Leaf(int weight, int strength) { }

    private record State(List<Leaf> leaves, List<Integer> printed, int left, int suction, int gutter,
            int learns, int offset, List<Shot> shots, List<Integer> turned, int row, int pairs) {
        int right() {
            return leaves.size() - left;
        }

        int pages() {
            return printed.size();
        }

        State withPrinted(List<Integer> newPrinted) {
            return new State(leaves, newPrinted, left, suction, gutter, learns, offset, shots, turned,
                row, pairs);
        }

        State withLeft(int newLeft) {
            return new State(leaves, printed, newLeft, suction, gutter, learns, offset, shots, turned,
                row, pairs);
        }

        State withSuction(int newSuction) {
            return new State(leaves, printed, left, newSuction, gutter, learns, offset, shots, turned,
                row, pairs);
        }

        State withSettings(int newGutter, int newLearns, int newOffset) {
            return new State(leaves, printed, left, suction, newGutter, newLearns, newOffset, shots,
                turned, row, pairs);
        }

        State withShots(List<Shot> newShots, int newPairs) {
            return new State(leaves, printed, left, suction, gutter, learns, offset, newShots, turned,
                row, newPairs);
        }

        State withTurned(List<Integer> newTurned, int newRow) {
            return new State(leaves, printed, left, suction, gutter, learns, offset, shots, newTurned,
                newRow, pairs);
        }

        State withBook(List<Leaf> newLeaves, List<Integer> newPrinted) {
            return new State(newLeaves, newPrinted, 0, suction, gutter, learns, offset, List.of(),
                List.of(), 0, 0);
        }
    }

    private State state = new State(List.of(), List.of(), 0, 6, 2, 0, 1, List.of(), List.of(), 0, 0);
    private State snapshot = null;
    private final Deque<State> history = new ArrayDeque<>();
    private String text = "";

    private int act(State next, int answer) {
        history.addLast(state);
        if (history.size() > 4) {
            history.removeFirst();
        }
        state = next;
        return answer;
    }

    int takeBook() {
        if (!text.matches("(?s)[1-9](s[1-9])?[*!]?(,[1-9](s[1-9])?[*!]?){0,29}")) {
            return -100 - fault();
        }
        List<Leaf> leaves = new ArrayList<>();
        List<Integer> printed = new ArrayList<>();
        Matcher one = Pattern.compile("([1-9])(?:s([1-9]))?([*!]?)").matcher(text);
        while (one.find()) {
            int strength = one.group(2) == null ? 0 : Integer.parseInt(one.group(2));
            leaves.add(new Leaf(Integer.parseInt(one.group(1)), strength));
            for (int side = 0; side < 2; side++) {
                int should = printed.size() + 1;
                printed.add(one.group(3).equals("*") ? -5
                    : one.group(3).equals("!") ? should + 2 : should);
            }
        }
        return act(state.withBook(leaves, printed), leaves.size());
    }

    /** The longest beginning of the text that some good text begins with. */
    private int fault() {
        for (int length = text.length(); length > 0; length--) {
            if (beginsGoodText(text.substring(0, length))) {
                return length;
            }
        }
        return 0;
    }

    private static boolean beginsGoodText(String begin) {
        String[] ends = {"", "1"};
        for (String end : ends) {
            if ((begin + end).matches("(?s)[1-9](s[1-9])?[*!]?(,[1-9](s[1-9])?[*!]?){0,29}")) {
                return true;
            }
        }
        return false;
    }

    int layBook(int leaves, int seed) {
        if (leaves < 1 || leaves > 30 || seed < 0 || seed > 9999) {
            return -2;
        }
        List<Leaf> laid = new ArrayList<>();
        List<Integer> printed = new ArrayList<>();
        int sum = 0;
        int s = seed;
        for (int k = 0; k < leaves; k++) {
            s = (421 * s + 1663) % 10000;
            int strength = s / 10 % 10;
            laid.add(new Leaf(1 + s % 5, strength < 6 ? 0 : strength));
            sum += 1 + s % 5;
            printed.add(s / 100 % 8 == 0 ? -5 : 2 * k + 1);
            printed.add(s / 100 % 8 == 0 ? -5 : 2 * k + 2);
        }
        return act(state.withBook(laid, printed), sum);
    }

    int print(int page, int number) {
        if (page < 0 || page >= state.pages()) {
            return -1;
        }
        if (number != -5 && (number < 0 || number > 199)) {
            return -2;
        }
        int previous = state.printed.get(page);
        if (previous == number) {
            return -5;
        }
        List<Integer> printed = new ArrayList<>(state.printed);
        printed.set(page, number);
        return act(state.withPrinted(printed), previous == -5 ? 200 : previous);
    }

    private static int turned(State s, int suction) {
        if (suction < s.leaves.get(s.left).weight) {
            return 0;
        }
        int howMany = 1;
        while (s.left + howMany < s.leaves.size()) {
            int weights = 0;
            for (Leaf leaf : s.leaves.subList(s.left, s.left + howMany)) {
                weights += leaf.weight;
            }
            boolean light = suction >= weights + s.leaves.get(s.left + howMany).weight;
            boolean sticks = suction - weights < s.leaves.get(s.left + howMany - 1).strength;
            if (!light || !sticks) {
                break;
            }
            howMany++;
        }
        return howMany;
    }

    private static State turning(State s) {
        int turned = turned(s, s.suction);
        List<Integer> all = new ArrayList<>(s.turned);
        all.add(turned);
        int row = turned == 1 ? s.row + 1 : 0;
        int suction = s.suction;
        if (turned >= 2) {
            suction = Math.min(20, suction + 1);
        } else if (turned == 0) {
            suction = Math.min(20, suction + 2);
        } else if (row == 5) {
            suction = Math.max(1, suction - 1);
        }
        State next = s.withLeft(s.left + turned).withTurned(all, row % 5);
        return s.learns == 1 ? next.withSuction(suction) : next;
    }

    int turn() {
        if (state.right() == 0) {
            return -4;
        }
        State next = turning(state);
        return act(next, next.left - state.left);
    }

    int turnBack() {
        return state.left == 0 ? -4 : act(state.withLeft(state.left - 1), state.left - 1);
    }

    private static List<Integer> open(State s) {
        List<Integer> pages = new ArrayList<>();
        if (s.left > 0) {
            pages.add(2 * (s.left - 1) + 1);
        }
        if (s.right() > 0) {
            pages.add(2 * s.left);
        }
        return pages;
    }

    private static boolean goodIn(State s, int page) {
        int side = page % 2 == 1 ? (page + 1) / 2 : s.leaves.size() - page / 2;
        return side >= s.gutter || s.leaves.size() < 2 * s.gutter;
    }

    private static State shooting(State s) {
        List<Shot> shots = new ArrayList<>(s.shots);
        for (int page : open(s)) {
            int number = s.printed.get(page);
            boolean good = goodIn(s, page);
            shots.add(new Shot(page, good || number == -5 ? number : number / 10, good, s.pairs));
        }
        return s.withShots(shots, s.pairs + 1);
    }

    private int shooted(State next) {
        return next.shots.size() > 80 ? -3 : act(next, next.shots.size() - state.shots.size());
    }

    int shoot() {
        return state.leaves.isEmpty() ? -4 : shooted(shooting(state));
    }

    int scan(int times) {
        if (times < 1 || times > 60) {
            return -2;
        }
        if (state.leaves.isEmpty()) {
            return -4;
        }
        State next = state;
        int done = 0;
        while (next.right() > 0 && done < times) {
            next = turning(shooting(next));
            done++;
        }
        return shooted(next.right() == 0 ? shooting(next) : next);
    }

    int throwAway(int picture) {
        if (picture < 0 || picture >= state.shots.size()) {
            return -1;
        }
        List<Shot> shots = new ArrayList<>(state.shots);
        shots.remove(picture);
        return act(state.withShots(shots, state.pairs), shots.size());
    }

    int setSuction(int suction) {
        if (suction < 1 || suction > 20) {
            return -2;
        }
        return suction == state.suction ? -5 : act(state.withSuction(suction), state.suction);
    }

    int set(int which, int value) {
        if (which < 0 || which > 2) {
            return -2;
        }
        int[] settings = {state.gutter, state.learns, state.offset};
        int[] most = {10, 1, 99};
        if (value < 0 || value > most[which]) {
            return -2;
        }
        int previous = settings[which];
        if (previous == value) {
            return -5;
        }
        settings[which] = value;
        return act(state.withSettings(settings[0], settings[1], settings[2]), previous);
    }

    int type(char character) {
        if (text.length() == 60) {
            return -3;
        }
        text += character;
        return text.length();
    }

    int clearText() {
        int length = text.length();
        text = "";
        return length;
    }

    int undo() {
        if (history.isEmpty()) {
            return -5;
        }
        state = history.removeLast();
        return history.size();
    }

    int keep() {
        snapshot = state;
        return state.shots.size();
    }

    int restore() {
        return snapshot == null ? -5 : act(snapshot, snapshot.shots.size());
    }

    int leaf(int leaf, int what) {
        if (leaf < 0 || leaf >= state.leaves.size()) {
            return -1;
        }
        return switch (what) {
            case 0 -> state.leaves.get(leaf).weight;
            case 1 -> state.leaves.get(leaf).strength;
            case 2 -> leaf < state.left ? 1 : 0;
            default -> -2;
        };
    }

    private int guess(int picture) {
        if (picture < 0) {
            return -5;
        }
        Shot shot = state.shots.get(picture);
        int byNumber = shot.number - state.offset;
        if (shot.number != -5 && shot.good && byNumber >= 0 && byNumber < state.pages()) {
            return byNumber;
        }
        int ahead = guess(picture - 1);
        return ahead == -5 || ahead + 1 >= state.pages() ? -5 : ahead + 1;
    }

    private int inSet(int page) {
        for (int good = 1; good >= 0; good--) {
            for (int i = 0; i < state.shots.size(); i++) {
                if (guess(i) == page && (good == 0 || state.shots.get(i).good)) {
                    return i;
                }
            }
        }
        return -5;
    }

    private boolean doubtful(int page) {
        return inSet(page) != -5 && state.shots.get(inSet(page)).page != page;
    }

    private boolean spare(int picture) {
        for (int page = 0; page < state.pages(); page++) {
            if (inSet(page) == picture) {
                return false;
            }
        }
        return true;
    }

    private List<Integer> lackingPages() {
        List<Integer> pages = new ArrayList<>();
        for (int page = 0; page < state.pages(); page++) {
            if (inSet(page) == -5) {
                pages.add(page);
            }
        }
        return pages;
    }

    int page(int page, int what) {
        if (page < 0 || page >= state.pages()) {
            return -1;
        }
        return switch (what) {
            case 0 -> state.printed.get(page);
            case 1 -> inSet(page);
            case 2 -> (int) state.shots.stream().filter(shot -> shot.page == page).count();
            case 3 -> doubtful(page) ? 1 : 0;
            case 4 -> goodIn(state, page) ? 1 : 0;
            default -> -2;
        };
    }

    int picture(int picture, int what) {
        if (picture < 0 || picture >= state.shots.size()) {
            return -1;
        }
        Shot shot = state.shots.get(picture);
        return switch (what) {
            case 0 -> shot.page;
            case 1 -> shot.number;
            case 2 -> shot.good ? 1 : 0;
            case 3 -> guess(picture);
            case 4 -> spare(picture) ? 1 : 0;
            case 5 -> 1 - shot.page % 2;
            case 6 -> shot.pair;
            default -> -2;
        };
    }

    int open(int side) {
        if (side < 0 || side > 1) {
            return -2;
        }
        for (int page : open(state)) {
            if (page % 2 != side) {
                return page;
            }
        }
        return -5;
    }

    int would(int suction) {
        if (suction < 1 || suction > 20) {
            return -2;
        }
        return state.right() == 0 ? -4 : turned(state, suction);
    }

    int best() {
        if (state.right() == 0) {
            return -4;
        }
        int suction = 1;
        while (suction <= 20 && turned(state, suction) != 1) {
            suction++;
        }
        return suction > 20 ? -5 : suction;
    }

    int lacking(int rank) {
        if (rank < 0) {
            return -2;
        }
        List<Integer> pages = lackingPages();
        return rank < pages.size() ? pages.get(rank) : -5;
    }

    private int countTurned(int least, int most) {
        return (int) state.turned.stream().filter(t -> t >= least && t <= most).count();
    }

    private int countDoubtful() {
        int found = 0;
        for (int page = 0; page < state.pages(); page++) {
            found += doubtful(page) ? 1 : 0;
        }
        return found;
    }

    private int countPictures(int what, int answer) {
        int found = 0;
        for (int i = 0; i < state.shots.size(); i++) {
            found += picture(i, what) == answer ? 1 : 0;
        }
        return found;
    }

    int count(int what) {
        return switch (what) {
            case 0 -> state.leaves.size();
            case 1 -> state.left;
            case 2 -> state.shots.size();
            case 3 -> lackingPages().size();
            case 4 -> countDoubtful();
            case 5 -> countPictures(4, 1);
            case 6 -> countPictures(3, -5);
            case 7 -> state.turned.size();
            case 8 -> countTurned(2, 30);
            case 9 -> countTurned(0, 0);
            case 10 -> state.suction;
            case 11 -> state.gutter;
            case 12 -> state.learns;
            case 13 -> state.offset;
            case 14 -> state.pairs;
            case 15 -> history.size();
            case 16 -> text.length();
            default -> -2;
        };
    }
}
