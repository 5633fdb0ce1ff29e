import java.util.ArrayDeque;
import java.util.ArrayList;
import java.util.Deque;
import java.util.HashSet;
import java.util.List;
import java.util.NoSuchElementException;
import java.util.Set;
import java.util.regex.Matcher;
import java.util.regex.Pattern;

/** A second telling of the document, with two lists a row and nothing shared with the class. */
final class Model {
    private static final Pattern ACTS = Pattern.compile("(?:[fb]-?[0-9]{1,3};|[xy];)*");

    /** A version: its two parts are lists of their own, the back part told from its middle to its end. */
    private static final class Node {
        int parent = -1;
        int act = -1;
        int value = 0;
        int depth = 0;
        int cost = 0;
        int extra = 0;
        int debt = 0;
        int goal = -1;
        Deque<Integer> front = new ArrayDeque<>();
        Deque<Integer> back = new ArrayDeque<>();

        List<Integer> row() {
            List<Integer> all = new ArrayList<>(front);
            all.addAll(back);
            return all;
        }

        void divide(int frontSize) {
            List<Integer> all = row();
            front = new ArrayDeque<>(all.subList(0, frontSize));
            back = new ArrayDeque<>(all.subList(frontSize, all.size()));
        }

        int fact(int what) {
            int[] facts = {parent, front.size() + back.size(), front.size(), back.size(), debt, goal, cost, extra,
                act, depth};
            return facts[what];
        }
    }

    /** What undo restores; nodes are never changed, so the list alone is copied. */
    private record Saved(List<Node> nodes, int rate, int ratio) {
    }

    private List<Node> nodes = new ArrayList<>(List.of(new Node()));
    private int rate = 3;
    private int ratio = 3;
    private String text = "";
    private final Deque<Saved> saved = new ArrayDeque<>();

    private void save() {
        saved.addLast(new Saved(new ArrayList<>(nodes), rate, ratio));
        if (saved.size() > 4) {
            saved.removeFirst();
        }
    }

    private Node node(int number) {
        if (number < 0 || number >= nodes.size()) {
            throw new IndexOutOfBoundsException();
        }
        return nodes.get(number);
    }

    private static void require(boolean argument) {
        if (!argument) {
            throw new IllegalArgumentException();
        }
    }

    private static void requireState(boolean state) {
        if (!state) {
            throw new IllegalStateException();
        }
    }

    // ---- the acts

    private static Node child(Node from, int parent, int act, int value, int rate, int ratio) {
        Node made = new Node();
        made.parent = parent;
        made.act = act;
        made.depth = from.depth + 1;
        made.front = new ArrayDeque<>(from.front);
        made.back = new ArrayDeque<>(from.back);
        made.debt = from.debt;
        made.goal = from.goal;
        boolean atFront = act % 2 == 0;
        if (act >= 2) {
            stallIfEmpty(made, atFront);
        }
        made.value = act < 2 ? pushed(made, atFront, value) : popped(made, atFront);
        made.cost += 1;
        if (made.goal >= 0) {
            moveGoal(made, act);
            payDebt(made, rate);
        }
        int greater = Math.max(made.front.size(), made.back.size());
        int lesser = Math.min(made.front.size(), made.back.size());
        if (made.goal < 0 && greater > ratio * lesser + 1) {
            made.debt = greater + lesser;
            made.goal = made.debt / 2;
        }
        return made;
    }

    private static void stallIfEmpty(Node made, boolean atFront) {
        if (!(atFront ? made.front : made.back).isEmpty()) {
            return;
        }
        if (made.goal >= 0) {
            made.extra = made.debt;
            made.debt = 0;
            made.divide(made.goal);
            made.goal = -1;
        }
        if ((atFront ? made.front : made.back).isEmpty()) {
            made.extra += (atFront ? made.back : made.front).size() - 1;
        }
        made.cost = made.extra;
    }

    private static int pushed(Node made, boolean atFront, int value) {
        if (atFront) {
            made.front.addFirst(value);
        } else {
            made.back.addLast(value);
        }
        return value;
    }

    private static int popped(Node made, boolean atFront) {
        if (atFront) {
            return (made.front.isEmpty() ? made.back : made.front).removeFirst();
        }
        return (made.back.isEmpty() ? made.front : made.back).removeLast();
    }

    private static void moveGoal(Node made, int act) {
        int size = made.front.size() + made.back.size();
        if (act == 0) {
            made.goal++;
        } else if (act == 2) {
            made.goal--;
        }
        if (made.goal < 0) {
            made.goal = 0;
        }
        if (made.goal > size) {
            made.goal = size;
        }
    }

    private static void payDebt(Node made, int rate) {
        for (int i = 0; i < rate && made.debt > 0; i++) {
            made.debt--;
            made.cost++;
        }
        if (made.debt == 0) {
            made.divide(made.goal);
            made.goal = -1;
        }
    }

    int set(int what, int value) {
        require(what == 0 && value >= 1 && value <= 9 || what == 1 && value >= 2 && value <= 5);
        save();
        int previous = setting(what);
        if (what == 0) {
            rate = value;
        } else {
            ratio = value;
        }
        return previous;
    }

    int push(int version, int value, boolean front) {
        Node from = node(version);
        require(value >= -999 && value <= 999);
        requireState(from.row().size() < 40 && nodes.size() < 100);
        save();
        nodes.add(child(from, version, front ? 0 : 1, value, rate, ratio));
        return nodes.size() - 1;
    }

    int pop(int version, boolean front) {
        Node from = node(version);
        if (from.row().isEmpty()) {
            throw new NoSuchElementException();
        }
        requireState(nodes.size() < 100);
        save();
        nodes.add(child(from, version, front ? 2 : 3, 0, rate, ratio));
        return nodes.size() - 1;
    }

    int drop() {
        requireState(nodes.size() > 1);
        save();
        nodes.remove(nodes.size() - 1);
        return nodes.size();
    }

    int clear() {
        save();
        int dropped = nodes.size() - 1;
        nodes.subList(1, nodes.size()).clear();
        return dropped;
    }

    // ---- values

    int version(int version, int what) {
        Node asked = node(version);
        require(what >= 0 && what <= 9);
        return asked.fact(what);
    }

    int value(int version) {
        Node asked = node(version);
        requireState(version > 0);
        return asked.value;
    }

    int at(int version, int place) {
        return node(version).row().get(place);
    }

    int steps(int version, int place) {
        Node asked = node(version);
        asked.row().get(place);
        return place < asked.front.size() ? place + 1 : asked.row().size() - place;
    }

    int count(int what) {
        require(what >= 0 && what <= 7);
        Set<Integer> parents = new HashSet<>();
        int[] numbers = new int[8];
        for (Node asked : nodes) {
            parents.add(asked.parent);
            numbers[0]++;
            numbers[2] = Math.max(numbers[2], asked.cost);
            numbers[3] += asked.cost;
            numbers[4] += asked.extra > 0 ? 1 : 0;
            numbers[5] += asked.extra;
            numbers[6] += asked.goal >= 0 ? 1 : 0;
            numbers[7] = Math.max(numbers[7], asked.depth);
        }
        parents.remove(-1);
        numbers[1] = numbers[0] - parents.size();
        return numbers[what];
    }

    int setting(int what) {
        require(what == 0 || what == 1);
        return what == 0 ? rate : ratio;
    }

    // ---- looking at versions

    /** The numbers on the way from a version to the version 0, its own first. */
    private List<Integer> way(int version) {
        node(version);
        List<Integer> numbers = new ArrayList<>();
        for (int number = version; number >= 0; number = nodes.get(number).parent) {
            numbers.add(number);
        }
        return numbers;
    }

    int common(int a, int b) {
        List<Integer> shared = way(a);
        shared.retainAll(way(b));
        int best = shared.get(0);
        for (int number : shared) {
            best = node(number).depth > node(best).depth ? number : best;
        }
        return best;
    }

    boolean same(int a, int b) {
        return node(a).row().equals(node(b).row());
    }

    int firstLike(int version) {
        int first = 0;
        while (!same(first, version)) {
            first++;
        }
        return first;
    }

    int worst(int version) {
        int worst = 0;
        for (int number : way(version)) {
            worst = Math.max(worst, node(number).cost);
        }
        return worst;
    }

    double mean(int version) {
        double sum = 0;
        for (int number : way(version)) {
            sum += node(number).cost;
        }
        return version == 0 ? 0.0 : sum / node(version).depth;
    }

    // ---- text

    int append(int value) {
        require(value >= 0 && value <= 127);
        requireState(text.length() < 100);
        text += (char) value;
        return text.length();
    }

    int clearText() {
        int length = text.length();
        text = "";
        return length;
    }

    /** The first byte with which the text can't go on to a right one, or its length; -1 without an error. */
    private int error() {
        if (ACTS.matcher(text).matches()) {
            return -1;
        }
        for (int length = 1; length <= text.length(); length++) {
            Matcher beginning = ACTS.matcher(text.substring(0, length));
            if (!beginning.matches() && !beginning.hitEnd()) {
                return length - 1;
            }
        }
        return text.length();
    }

    /** The versions that the text would make from a version with a rate. */
    private List<Node> outcome(int version, int asked) {
        List<Node> made = new ArrayList<>();
        Node last = node(version);
        int parent = version;
        for (String act : text.split(";")) {
            int kind = act.isEmpty() ? -1 : "fbxy".indexOf(act.charAt(0));
            int size = last.row().size();
            if (kind < 0 || nodes.size() + made.size() >= 100 || (kind < 2 ? size >= 40 : size == 0)) {
                break;
            }
            int value = kind < 2 ? Integer.parseInt(act.substring(1)) : 0;
            last = child(last, parent, kind, value, asked, ratio);
            parent = nodes.size() + made.size();
            made.add(last);
        }
        return made;
    }

    int run(int version) {
        node(version);
        if (error() >= 0) {
            return -10 - error();
        }
        save();
        List<Node> made = outcome(version, rate);
        nodes.addAll(made);
        return made.size();
    }

    private List<Node> tried(int version, int asked) {
        node(version);
        require(asked >= 1 && asked <= 9);
        requireState(error() < 0);
        return outcome(version, asked);
    }

    int stalls(int version, int asked) {
        int stalls = 0;
        for (Node made : tried(version, asked)) {
            stalls += made.extra > 0 ? 1 : 0;
        }
        return stalls;
    }

    int worstWith(int version, int asked) {
        int worst = 0;
        for (Node made : tried(version, asked)) {
            worst = Math.max(worst, made.cost);
        }
        return worst;
    }

    int leastRate(int version) {
        int least = -1;
        for (int asked = 9; asked >= 1; asked--) {
            least = stalls(version, asked) == 0 ? asked : least;
        }
        return least;
    }

    // ---- state

    int undo() {
        requireState(!saved.isEmpty());
        Saved state = saved.removeLast();
        nodes = state.nodes();
        rate = state.rate();
        ratio = state.ratio();
        return saved.size();
    }

    long digest() {
        long hash = 31L * 3767 + text.length();
        for (int what = 0; what < 8; what++) {
            hash = 31 * hash + count(what);
        }
        hash = 31 * hash + rate;
        hash = 31 * hash + ratio;
        for (Node asked : nodes) {
            for (int what = 0; what < 10; what++) {
                hash = 31 * hash + asked.fact(what);
            }
            for (int value : asked.row()) {
                hash = 31 * hash + value;
            }
        }
        return 31 * hash + saved.size();
    }
}
