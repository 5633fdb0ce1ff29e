/** The head 'Terms': the four things of an act. Facts are size, front, back, debt, goal, cost and extra steps. */
final class ActEdges {
    private static final boolean FRONT = Rows.FRONT;
    private static final boolean BACK = Rows.BACK;

    private final Edges edges;

    ActEdges(Edges edges) {
        this.edges = edges;
    }

    void run() {
        fourActs();
        copyOfParent();
        orderOfThings();
        partOfNothing();
        partOfOne();
        pushesDoNotStall();
        debtAddedAtOnce();
        goalGotAtOnce();
        partStillEmpty();
        partStillEmptyAtBack();
        extraStepsOfNothing();
        otherPartShrinks();
        oneForTheAct();
        goalMovesAtFront();
        goalBelowNothing();
        goalAboveSize();
        stepsPaid();
        rebuildOver();
        beginsAboveRatio();
        secondRebuild();
        halfOfSize();
        nothingPaidYet();
    }

    private static EndVersions after(int rate, int ratio, String acts) {
        return Rows.after(rate, ratio, acts);
    }

    private void made(String what, EndVersions rows, String acts, String due) {
        edges.facts(what, rows, Rows.act(rows, rows.count(0) - 1, acts), due);
    }

    /** Eight in front beside three, a debt of 11 and a goal of 5; the row is 11 10 9 8 7 6 4 2 1 3 5. */
    private static EndVersions elevenInFront(int rate) {
        return after(rate, 2, "b1 f2 b3 f4 b5 f6 f7 f8 f9 f10 f11");
    }

    /** Three in front beside eight, a debt of 11 and a goal of 5; the row is 6 4 2 1 3 5 7 8 9 10 11. */
    private static EndVersions elevenInBack(int rate) {
        return after(rate, 2, "b1 f2 b3 f4 b5 f6 b7 b8 b9 b10 b11");
    }

    // ---- the acts

    private void fourActs() {
        edges.terms("pushes a value to the front or to the back end, or pops the value at the front or");
        EndVersions rows = new EndVersions();
        rows.push(0, 1, FRONT);
        rows.push(1, 2, FRONT);
        rows.push(1, 3, BACK);
        rows.pop(2, FRONT);
        rows.pop(2, BACK);
        rows.pop(1, FRONT);
        rows.pop(1, BACK);
        String[] due = {"", "1", "2 1", "1 3", "1", "2", "", ""};
        for (int version = 0; version < due.length; version++) {
            edges.row("the version " + version, rows, version, due[version]);
        }
        edges.is("the only value, popped at the front", rows.value(6), 1);
        edges.is("the only value, popped at the back", rows.value(7), 1);
    }

    private void copyOfParent() {
        edges.terms("The new version begins as a copy of the parent, and its cost is 0.");
        EndVersions rows = after(1, 3, "f1 f2 y");
        edges.facts("a stalled act", rows, 3, "1 1 0 0 -1 3 2");
        edges.facts("a cost and extra steps are not copied", rows, rows.push(3, 5, BACK), "2 1 1 0 -1 1 0");
        edges.facts("parts, debt and goal are", rows, rows.push(2, 5, FRONT), "3 3 0 1 2 2 0");
        edges.row("the row is", rows, 5, "5 2 1");
        edges.facts("an act on the version 0", rows, rows.push(0, 5, BACK), "1 0 1 0 -1 1 0");
    }

    private void orderOfThings() {
        edges.terms("Then these things happen, in this order:");
        EndVersions first = elevenInBack(1);
        made("the stall comes before the pop moves the goal", first, "x x x x", "7 1 6 7 3 9 8");
        EndVersions second = after(3, 3, "f1 f2 f3");
        edges.facts("the goal moves before the front part gets it", second, 3, "3 2 1 0 -1 3 0");
        EndVersions third = elevenInFront(2);
        made("the rebuild is over before the parts are compared", third, "x x x x x x", "5 0 5 5 2 2 0");
        EndVersions fourth = after(9, 3, "f1 f2");
        edges.facts("a payment comes before a rebuild begins", fourth, 2, "2 2 0 2 1 1 0");
    }

    // ---- 1

    private void partOfNothing() {
        edges.terms("If the act pops at an end whose part has the size 0");
        EndVersions rows = after(3, 3, "f1 f2 y x");
        edges.facts("a pop at the back, the part of 0", rows, 3, "1 1 0 0 -1 3 2");
        edges.is("it takes the value at the back", rows.value(3), 1);
        edges.facts("a pop at the front, the part of 1", rows, 4, "0 0 0 0 -1 1 0");
        EndVersions turned = after(3, 3, "b1 b2 x y");
        edges.facts("a pop at the front, the part of 0", turned, 3, "1 0 1 0 -1 3 2");
        edges.is("it takes the value at the front", turned.value(3), 1);
        edges.facts("a pop at the back, the part of 1", turned, 4, "0 0 0 0 -1 1 0");
    }

    private void partOfOne() {
        edges.terms("at an end whose part has the size 0: if a rebuild is in progress");
        EndVersions rows = after(1, 2, "b1 f2 f3 f4 f5 y");
        edges.facts("the part of 1 shrinks, the rebuild goes on", rows, 6, "4 4 0 4 2 2 0");
        made("the part of 0 is filled first", rows, "y", "3 2 1 0 -1 5 4");
        EndVersions turned = after(1, 2, "f1 b2 b3 b4 b5 x");
        edges.facts("the part of 1 shrinks, turned", turned, 6, "4 0 4 4 1 2 0");
        made("the part of 0 is filled first, turned", turned, "x", "3 0 3 3 1 5 4");
    }

    private void pushesDoNotStall() {
        edges.terms("If the act pops at an end whose part has the size 0");
        EndVersions rows = after(1, 3, "f1 f2 b3");
        edges.facts("a push to the part of 0", rows, 3, "3 2 1 1 1 2 0");
        EndVersions turned = after(1, 3, "b1 b2 f3");
        edges.facts("a push to the part of 0, turned", turned, 3, "3 1 2 1 2 2 0");
        edges.is("no stall", rows.count(4) + turned.count(4), 0);
    }

    private void debtAddedAtOnce() {
        edges.terms("its debt is added to the cost and is 0 then");
        EndVersions one = after(1, 3, "f1 f2 x y");
        edges.facts("a debt of 1 and a goal of 0", one, 3, "1 1 0 1 0 2 0");
        edges.facts("the debt of 1", one, 4, "0 0 0 0 -1 2 1");
        edges.is("the act stalls", one.count(4), 1);
        EndVersions all = elevenInBack(1);
        made("a debt that 3 acts have paid a part of", all, "x x x", "8 0 8 8 2 2 0");
        made("what is left of it", all, "x", "7 1 6 7 3 9 8");
        EndVersions none = after(1, 3, "f1 y");
        edges.facts("without a rebuild", none, 2, "0 0 0 0 -1 1 0");
    }

    private void goalGotAtOnce() {
        edges.terms("the front part gets the size of the goal, the back part gets the rest, and the rebuild is over");
        EndVersions three = after(1, 3, "f1 f2 f3 y");
        edges.facts("the back part gets 1, and pops it", three, 4, "2 2 0 2 1 2 1");
        edges.is("the value at the back", three.value(4), 1);
        EndVersions front = elevenInBack(1);
        made("the front part gets 2, and pops one", front, "x x x x", "7 1 6 7 3 9 8");
        edges.is("the value at the front", front.value(15), 1);
    }

    private void partStillEmpty() {
        edges.terms("If the part still has the size 0, the size of the other part minus 1 is added to the cost.");
        EndVersions one = after(1, 2, "b1 f2 f3 f4 f5 x x x x");
        edges.facts("one in the other part", one, 9, "1 0 1 1 0 2 0");
        made("nothing for the other part of 1", one, "x", "0 0 0 0 -1 2 1");
        EndVersions two = after(1, 2, "b1 f2 b3 f4 f5 f6 f7 f8 x x x x x x");
        edges.facts("two in the other part", two, 14, "2 0 2 2 0 2 0");
        made("1 for the other part of 2", two, "x", "1 0 1 0 -1 4 3");
        EndVersions three = elevenInFront(1);
        made("three in the other part", three, "x x x x x x x x", "3 0 3 3 0 2 0");
        made("2 for the other part of 3", three, "x", "2 0 2 2 1 6 5");
        edges.is("the value at the front", three.value(20), 1);
        edges.row("the rest", three, 20, "3 5");
    }

    private void partStillEmptyAtBack() {
        edges.terms("If the part still has the size 0, the size of the other part minus 1 is added to the cost.");
        EndVersions one = after(1, 3, "f1 f2 x");
        edges.facts("a goal of 0 beside an empty back part", one, 3, "1 1 0 1 0 2 0");
        made("the back part gets the one", one, "y", "0 0 0 0 -1 2 1");
        EndVersions three = elevenInBack(1);
        made("three in the other part", three, "y y y y y y y y", "3 3 0 3 3 2 0");
        made("2 for the other part of 3", three, "y", "2 2 0 2 1 6 5");
        edges.is("the value at the back", three.value(20), 2);
        edges.row("the rest", three, 20, "6 4");
        EndVersions none = after(3, 3, "f1 y");
        edges.facts("the other part of 1 without a rebuild", none, 2, "0 0 0 0 -1 1 0");
        EndVersions turned = after(3, 3, "b1 x");
        edges.facts("the other part of 1 without a rebuild, turned", turned, 2, "0 0 0 0 -1 1 0");
    }

    private void extraStepsOfNothing() {
        edges.terms("What is added in this step are the extra steps; the act stalls if they are more than 0.");
        EndVersions rows = after(1, 3, "f1 y");
        edges.is("extra steps of 0", rows.version(2, 7), 0);
        edges.is("are no stall", rows.count(4), 0);
        EndVersions one = after(1, 3, "f1 f2 x y");
        edges.is("extra steps of 1", one.version(4, 7), 1);
        edges.is("are a stall", one.count(4), 1);
        edges.is("the step that is paid later is none", one.version(3, 7), 0);
    }

    // ---- 2

    private void otherPartShrinks() {
        edges.terms("(the other part, if the part of this end has the size 0)");
        EndVersions front = after(3, 3, "f1 y");
        edges.facts("the front part, by a pop at the back", front, 2, "0 0 0 0 -1 1 0");
        EndVersions back = after(3, 3, "b1 x");
        edges.facts("the back part, by a pop at the front", back, 2, "0 0 0 0 -1 1 0");
        EndVersions one = after(3, 3, "f1 b2 x");
        edges.facts("a part of 1 shrinks itself", one, 3, "1 0 1 0 -1 1 0");
        EndVersions turned = after(3, 3, "f1 b2 y");
        edges.facts("a part of 1 shrinks itself, turned", turned, 3, "1 1 0 0 -1 1 0");
        EndVersions grown = after(3, 3, "f1 b2 f3 b4");
        edges.facts("each part grows at its end", grown, 4, "4 2 2 0 -1 1 0");
    }

    private void oneForTheAct() {
        edges.terms("1 is added to the cost.");
        EndVersions rows = after(3, 3, "f1 b2 x y f3 y b4 x");
        for (int version = 1; version <= 8; version++) {
            edges.is("the cost of " + version, rows.version(version, 6), 1);
        }
        edges.is("that of the version 0, which no act made", rows.version(0, 6), 0);
    }

    private void goalMovesAtFront() {
        edges.terms("the goal grows or shrinks by 1, too, if the act is one at the front end");
        EndVersions rows = elevenInFront(1);
        edges.facts("the goal of 5", rows, 11, "11 8 3 11 5 1 0");
        edges.facts("a push to the front", rows, rows.push(11, 1, FRONT), "12 9 3 10 6 2 0");
        edges.facts("a push to the back", rows, rows.push(11, 1, BACK), "12 8 4 10 5 2 0");
        edges.facts("a pop at the front", rows, rows.pop(11, FRONT), "10 7 3 10 4 2 0");
        edges.facts("a pop at the back", rows, rows.pop(11, BACK), "10 8 2 10 5 2 0");
        EndVersions none = after(3, 3, "f1 b2 f3 x");
        edges.is("no goal without a rebuild", none.version(4, 5), EndVersions.NONE);
    }

    private void goalBelowNothing() {
        edges.terms("if it is below 0, it becomes 0");
        EndVersions rows = elevenInFront(1);
        made("the goal of 1", rows, "x x x x", "7 4 3 7 1 2 0");
        made("the goal of 0", rows, "x", "6 3 3 6 0 2 0");
        made("a goal below 0 becomes 0", rows, "x", "5 2 3 5 0 2 0");
        made("once more", rows, "x", "4 1 3 4 0 2 0");
        made("a pop at the back leaves it", rows, "y", "3 1 2 3 0 2 0");
        made("a push to the back leaves it", rows, "b1", "4 1 3 2 0 2 0");
        made("a push to the front takes it to 1", rows, "f1", "5 2 3 1 1 2 0");
    }

    private void goalAboveSize() {
        edges.terms("if it is greater than the size that the row has now, it becomes this size");
        EndVersions rows = elevenInBack(1);
        made("a goal of the size but one", rows, "y y y y y", "6 3 3 6 5 2 0");
        made("a goal of the size", rows, "y", "5 3 2 5 5 2 0");
        made("a goal above the size becomes the size", rows, "y", "4 3 1 4 4 2 0");
        made("a pop at the front leaves it at the size", rows, "x", "3 2 1 3 3 2 0");
        made("a push to the front as well", rows, "f1", "4 3 1 2 4 2 0");
        made("a push to the back leaves it below the size", rows, "b1", "5 3 2 1 4 2 0");
        made("the front part gets it", rows, "y", "4 4 0 4 2 2 0");
    }

    // ---- 3

    private void stepsPaid() {
        edges.terms("as many steps of its debt as the rate tells, or all that are left, are paid");
        for (int rate = 1; rate <= 9; rate++) {
            EndVersions rows = elevenInFront(rate);
            rows.push(11, 0, BACK);
            edges.facts("the rate " + rate, rows, 12, "12 8 4 " + (11 - rate) + " 5 " + (1 + rate) + " 0");
        }
        EndVersions less = after(3, 3, "f1 f2 b3");
        edges.facts("a debt of 2 at the rate 3", less, 3, "3 1 2 0 -1 3 0");
        EndVersions all = after(2, 3, "f1 f2 b3");
        edges.facts("a debt of 2 at the rate 2", all, 3, "3 1 2 0 -1 3 0");
        EndVersions more = after(1, 3, "f1 f2 b3");
        edges.facts("a debt of 2 at the rate 1", more, 3, "3 2 1 1 1 2 0");
        more.set(0, 9);
        edges.facts("a debt of 1 at the rate 9", more, more.push(3, 4, BACK), "4 1 3 0 -1 2 0");
    }

    private void rebuildOver() {
        edges.terms("If the debt is 0 then, the front part gets the size of the goal, the back part gets the rest");
        EndVersions rows = elevenInFront(5);
        made("a debt of 1 is not paid yet", rows, "b0 b0", "13 8 5 1 5 6 0");
        made("the last step", rows, "b0", "14 5 9 0 -1 2 0");
        edges.row("the values stay", rows, 14, "11 10 9 8 7 6 4 2 1 3 5 0 0 0");
        edges.is("place 4 is the last of the front part", rows.steps(14, 4), 5);
        edges.is("place 5 is the first of the back part", rows.steps(14, 5), 9);
        EndVersions empty = after(2, 3, "f1 f2 x x");
        edges.facts("on a row of 1", empty, 3, "1 0 1 0 -1 3 0");
        EndVersions last = after(1, 3, "f1 f2 x x");
        edges.facts("on an empty row", last, 4, "0 0 0 0 -1 2 0");
    }

    // ---- 4

    private void beginsAboveRatio() {
        edges.terms("the greater one of both parts is greater than ratio * the lesser one + 1, a rebuild begins");
        for (int ratio = 2; ratio <= 5; ratio++) {
            for (int lesser = 0; (ratio + 1) * lesser + 2 <= 40; lesser++) {
                beginsAbove(ratio, lesser);
            }
        }
    }

    private void beginsAbove(int ratio, int lesser) {
        int greater = ratio * lesser + 1;
        int size = greater + lesser + 1;
        String end = " " + size + " " + size / 2 + " 1 0";
        String told = "the ratio " + ratio + " beside " + lesser;
        for (boolean front : new boolean[] {FRONT, BACK}) {
            EndVersions rows = new EndVersions();
            rows.set(1, ratio);
            int last = front ? Rows.grow(rows, greater, lesser) : Rows.grow(rows, lesser, greater);
            edges.is(told + ", none yet", rows.version(last, 4), 0);
            edges.is(told + ", none at all", rows.count(6), 0);
            String due = size + (front ? " " + (greater + 1) + " " + lesser : " " + lesser + " " + (greater + 1)) + end;
            edges.facts(told + ", it begins", rows, rows.push(last, 0, front), due);
        }
    }

    private void secondRebuild() {
        edges.terms("If no rebuild is in progress, and the greater one of both parts");
        EndVersions rows = after(1, 3, "f1 f2 f3");
        edges.facts("none begins while one is in progress", rows, 3, "3 3 0 1 2 2 0");
        EndVersions again = elevenInFront(2);
        made("one step is left", again, "x x x x x", "6 3 3 1 0 3 0");
        made("one ends, the next one begins in the same act", again, "x", "5 0 5 5 2 2 0");
        EndVersions stalled = elevenInFront(1);
        made("one ends by a stall, the next one begins in the same act", stalled, "x x x x x x x x x", "2 0 2 2 1 6 5");
        made("the next one is paid in the next act", stalled, "b1", "3 0 3 1 1 2 0");
    }

    private void halfOfSize() {
        edges.terms("its debt is the size of the row, and its goal is half of this size");
        EndVersions two = after(3, 3, "f1 f2");
        edges.facts("half of 2", two, 2, "2 2 0 2 1 1 0");
        EndVersions five = after(3, 2, "b1 f2 f3 f4 f5");
        edges.facts("half of 5", five, 5, "5 4 1 5 2 1 0");
        EndVersions six = after(3, 3, "b1 f2 f3 f4 f5 f6");
        edges.facts("half of 6", six, 6, "6 5 1 6 3 1 0");
        EndVersions eleven = elevenInBack(3);
        edges.facts("half of 11", eleven, 11, "11 3 8 11 5 1 0");
    }

    private void nothingPaidYet() {
        edges.terms("(Nothing of it is paid in this act.)");
        EndVersions rows = after(9, 3, "f1 f2");
        edges.facts("a debt of 2 at the rate 9", rows, 2, "2 2 0 2 1 1 0");
        EndVersions again = elevenInFront(9);
        edges.facts("a debt of 11 at the rate 9", again, 11, "11 8 3 11 5 1 0");
        made("it is paid in the next act", again, "b0", "12 8 4 2 5 10 0");
    }
}
