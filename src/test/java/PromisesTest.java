/** Each of the promises 1 to 25 by hand: ordinary inputs, edges and wrong inputs. */
public final class PromisesTest {
    private static final Checks checks = new Checks("PromisesTest");
    private static final boolean FRONT = Rows.FRONT;
    private static final boolean BACK = Rows.BACK;

    private PromisesTest() {
    }

    public static void main(String[] arguments) {
        newObject();
        setTest();
        pushTest();
        popTest();
        dropTest();
        clearTest();
        versionTest();
        valueTest();
        atTest();
        stepsTest();
        countTest();
        settingTest();
        commonTest();
        sameTest();
        firstLikeTest();
        worstTest();
        meanTest();
        appendTest();
        clearTextTest();
        runTest();
        syntaxTest();
        stallsTest();
        worstWithTest();
        leastRateTest();
        undoTest();
        digestTest();
        checks.end();
    }

    // ---- helpers

    private static void same(String what, long got, long due) {
        checks.equal(what, got, due);
    }

    private static void factsAre(String what, EndVersions rows, int version, String due) {
        checks.equal(what, Rows.facts(rows, version), due);
    }

    private static void rowIs(String what, EndVersions rows, int version, String due) {
        checks.equal(what, Rows.row(rows, version), due);
    }

    // ---- promise 1

    private static void newObject() {
        EndVersions rows = new EndVersions();
        int[] counts = {1, 1, 0, 0, 0, 0, 0, 0};
        for (int what = 0; what < counts.length; what++) {
            same("new: count " + what, rows.count(what), counts[what]);
        }
        int[] facts = {-1, 0, 0, 0, 0, -1, 0, 0, -1, 0};
        for (int what = 0; what < facts.length; what++) {
            same("new: version 0, fact " + what, rows.version(0, what), facts[what]);
        }
        same("new: rate", rows.setting(0), 3);
        same("new: ratio", rows.setting(1), 3);
        same("new: text", rows.clearText(), 0);
        checks.badState("new: undo", rows::undo);
        same("NONE", EndVersions.NONE, -1);
        rows.push(0, 1, FRONT);
        same("an object knows nothing of another one", new EndVersions().count(0), 1);
    }

    // ---- promise 2

    private static void setTest() {
        EndVersions rows = new EndVersions();
        same("set the rate", rows.set(0, 9), 3);
        same("set the rate again", rows.set(0, 1), 9);
        same("set the ratio", rows.set(1, 2), 3);
        same("set the ratio again", rows.set(1, 5), 2);
        same("the rate is set", rows.setting(0), 1);
        same("the ratio is set", rows.setting(1), 5);
        int[][] wrong = {{-1, 3}, {2, 3}, {0, 0}, {0, 10}, {1, 1}, {1, 6}, {0, -1}, {1, Integer.MAX_VALUE},
            {0, Integer.MIN_VALUE}, {Integer.MIN_VALUE, 3}, {Integer.MAX_VALUE, 3}};
        for (int[] pair : wrong) {
            checks.badArgument("set " + pair[0] + ", " + pair[1], () -> rows.set(pair[0], pair[1]));
            checks.changesNothing("set " + pair[0] + ", " + pair[1], rows, () -> rows.set(pair[0], pair[1]));
        }
        same("set to the same value", rows.set(1, 5), 5);
        same("undo of a set that changes nothing", rows.undo(), 3);
        same("it stays", rows.setting(1), 5);
        rows.undo();
        same("undo of set", rows.setting(1), 2);
        settingsHoldForLaterActs();
    }

    private static void settingsHoldForLaterActs() {
        EndVersions rows = new EndVersions();
        Rows.pushMany(rows, 0, 2, FRONT);
        factsAre("before the settings", rows, 2, "2 2 0 2 1 1 0");
        rows.set(0, 1);
        rows.set(1, 5);
        factsAre("a version stays when the settings change", rows, 2, "2 2 0 2 1 1 0");
        rows.push(2, 7, FRONT);
        factsAre("the new rate pays one step", rows, 3, "3 3 0 1 2 2 0");
    }

    // ---- promise 3

    private static void pushTest() {
        EndVersions rows = new EndVersions();
        same("the first push", rows.push(0, 5, FRONT), 1);
        factsAre("a push of one", rows, 1, "1 1 0 0 -1 1 0");
        same("the second push", rows.push(1, 6, FRONT), 2);
        factsAre("two in front are too unequal", rows, 2, "2 2 0 2 1 1 0");
        same("the third push", rows.push(2, 7, FRONT), 3);
        factsAre("the goal grows, the debt is paid, the rebuild is over", rows, 3, "3 2 1 0 -1 3 0");
        rowIs("fronts come first", rows, 3, "7 6 5");
        same("a push to the back", rows.push(3, -999, BACK), 4);
        rowIs("backs come last", rows, 4, "7 6 5 -999");
        factsAre("the back part grows", rows, 4, "4 2 2 0 -1 1 0");
        same("a branch", rows.push(1, 999, BACK), 5);
        rowIs("a branch has its own row", rows, 5, "5 999");
        rowIs("the parent keeps its row", rows, 1, "5");
        same("the parent of a branch", rows.version(5, 0), 1);
        same("pushed to the front", rows.version(3, 8), 0);
        same("pushed to the back", rows.version(5, 8), 1);
        same("undo of push", rows.undo(), 3);
        same("the pushed version is gone", rows.count(0), 5);
        pushGoalAtBack();
        pushErrors();
    }

    private static void pushGoalAtBack() {
        EndVersions rows = new EndVersions();
        rows.set(0, 1);
        Rows.pushMany(rows, 0, 2, BACK);
        factsAre("two in the back are too unequal", rows, 2, "2 0 2 2 1 1 0");
        rows.push(2, 9, BACK);
        factsAre("a push to the back leaves the goal", rows, 3, "3 0 3 1 1 2 0");
        rows.push(3, 8, FRONT);
        factsAre("a push to the front moves the goal", rows, 4, "4 2 2 0 -1 2 0");
    }

    private static void pushErrors() {
        EndVersions rows = new EndVersions();
        checks.outOfBounds("push on no version", () -> rows.push(1, 0, FRONT));
        checks.outOfBounds("push on a version below 0", () -> rows.push(-1, 0, FRONT));
        checks.outOfBounds("push on the least number", () -> rows.push(Integer.MIN_VALUE, 0, BACK));
        checks.outOfBounds("push on the greatest number", () -> rows.push(Integer.MAX_VALUE, 0, BACK));
        checks.outOfBounds("the version is looked at first", () -> rows.push(1, 1000, FRONT));
        checks.badArgument("push of 1000", () -> rows.push(0, 1000, FRONT));
        checks.badArgument("push of -1000", () -> rows.push(0, -1000, BACK));
        checks.badArgument("push of the least number", () -> rows.push(0, Integer.MIN_VALUE, BACK));
        checks.changesNothing("push of 1000", rows, () -> rows.push(0, 1000, FRONT));
        int last = Rows.pushMany(rows, 0, 40, FRONT);
        same("40 values fit", rows.version(last, 1), 40);
        checks.badState("push on 40 values", () -> rows.push(last, 1, FRONT));
        checks.badState("push on 40 values at the back", () -> rows.push(last, 1, BACK));
        checks.badArgument("the value is looked at before the size", () -> rows.push(last, 1000, FRONT));
        checks.changesNothing("push on 40 values", rows, () -> rows.push(last, 1, BACK));
        EndVersions full = Rows.full();
        same("100 versions fit", full.count(0), 100);
        checks.badState("push on 100 versions", () -> full.push(0, 1, FRONT));
        checks.outOfBounds("no version 100", () -> full.push(100, 1, FRONT));
        checks.badArgument("the value is looked at before the versions", () -> full.push(99, -1000, FRONT));
        checks.changesNothing("push on 100 versions", full, () -> full.push(99, 1, BACK));
    }

    // ---- promise 4

    private static void popTest() {
        EndVersions rows = new EndVersions();
        Rows.pushMany(rows, 0, 3, BACK);
        rowIs("before pops", rows, 3, "0 1 2");
        factsAre("before pops", rows, 3, "3 1 2 0 -1 3 0");
        same("pop at the front", rows.pop(3, FRONT), 4);
        rowIs("popped at the front", rows, 4, "1 2");
        factsAre("the front part shrinks, and a rebuild begins", rows, 4, "2 0 2 2 1 1 0");
        same("pop at the back", rows.pop(3, BACK), 5);
        rowIs("popped at the back", rows, 5, "0 1");
        factsAre("the back part shrinks", rows, 5, "2 1 1 0 -1 1 0");
        same("popped at the front", rows.version(4, 8), 2);
        same("popped at the back", rows.version(5, 8), 3);
        same("a stalled pop", rows.pop(4, FRONT), 6);
        factsAre("the debt is paid at once", rows, 6, "1 0 1 0 -1 3 2");
        same("the value of a stalled pop", rows.value(6), 1);
        same("pop of the last one at the empty part", rows.pop(6, FRONT), 7);
        factsAre("the other part shrinks without a stall", rows, 7, "0 0 0 0 -1 1 0");
        same("a pop of the last one at the front of the back part", rows.value(7), 2);
        same("undo of pop", rows.undo(), 3);
        popStallsAtGoalOfNothing();
        popMovesGoal();
        popAtBackStalls();
        popErrors();
    }

    // Goals sink to 0 by pops at the front: then the rebuild that is ended at once leaves the front part empty.
    private static void popStallsAtGoalOfNothing() {
        EndVersions rows = new EndVersions();
        rows.set(0, 1);
        rows.set(1, 2);
        Rows.write(rows, "b1;f2;b3;f4;f5;f6;f7;f8;");
        same("eight acts", rows.run(0), 8);
        factsAre("six in front are too many beside two", rows, 8, "8 6 2 8 4 1 0");
        rows.clearText();
        Rows.write(rows, "x;x;x;x;x;x;x;x;");
        same("eight pops", rows.run(8), 8);
        factsAre("the goal sinks", rows, 12, "4 2 2 4 0 2 0");
        factsAre("the goal stays at 0", rows, 14, "2 0 2 2 0 2 0");
        factsAre("debt and the other part minus 1", rows, 15, "1 0 1 0 -1 4 3");
        same("the value that was pushed first", rows.value(15), 1);
        factsAre("one is left in the other part", rows, 16, "0 0 0 0 -1 1 0");
        same("the value that was pushed last to the back", rows.value(16), 3);
    }

    private static void popMovesGoal() {
        EndVersions rows = new EndVersions();
        rows.set(0, 1);
        rows.set(1, 2);
        Rows.write(rows, "f1;b2;f3;b4;b5;b6;b7;b8;");
        rows.run(0);
        factsAre("six in the back are too many beside two", rows, 8, "8 2 6 8 4 1 0");
        int last = 8;
        for (int i = 0; i < 4; i++) {
            last = rows.pop(last, BACK);
        }
        factsAre("a pop at the back leaves the goal", rows, last, "4 2 2 4 4 2 0");
        last = rows.pop(last, BACK);
        factsAre("the goal is no greater than the row", rows, last, "3 2 1 3 3 2 0");
        last = rows.pop(last, BACK);
        factsAre("the goal sinks with the row", rows, last, "2 2 0 2 2 2 0");
        last = rows.pop(last, BACK);
        factsAre("a pop at the back stalls", rows, last, "1 1 0 0 -1 4 3");
        same("it popped at the back", rows.value(last), 1);
    }

    private static void popAtBackStalls() {
        EndVersions rows = new EndVersions();
        Rows.pushMany(rows, 0, 2, FRONT);
        same("pop at the back beside an empty part", rows.pop(2, BACK), 3);
        factsAre("the rebuild gives one to the back part", rows, 3, "1 1 0 0 -1 3 2");
        same("the popped value", rows.value(3), 0);
        EndVersions empty = new EndVersions();
        empty.set(0, 1);
        Rows.pushMany(empty, 0, 2, FRONT);
        empty.pop(2, FRONT);
        factsAre("a goal sinks to 0", empty, 3, "1 1 0 1 0 2 0");
        empty.pop(3, FRONT);
        factsAre("a rebuild ends on an empty row", empty, 4, "0 0 0 0 -1 2 0");
    }

    private static void popErrors() {
        EndVersions rows = new EndVersions();
        checks.outOfBounds("pop on no version", () -> rows.pop(1, FRONT));
        checks.outOfBounds("pop on a version below 0", () -> rows.pop(-1, BACK));
        checks.noElement("pop on an empty row", () -> rows.pop(0, FRONT));
        checks.noElement("pop on an empty row at the back", () -> rows.pop(0, BACK));
        checks.changesNothing("pop on an empty row", rows, () -> rows.pop(0, BACK));
        EndVersions full = Rows.full();
        checks.badState("pop on 100 versions", () -> full.pop(99, FRONT));
        checks.noElement("the row is looked at before the versions", () -> full.pop(0, FRONT));
        checks.outOfBounds("the version is looked at first", () -> full.pop(100, FRONT));
        checks.changesNothing("pop on 100 versions", full, () -> full.pop(99, FRONT));
    }

    // ---- promise 5

    private static void dropTest() {
        EndVersions rows = new EndVersions();
        checks.badState("drop of the version 0", rows::drop);
        checks.changesNothing("drop of the version 0", rows, rows::drop);
        Rows.pushMany(rows, 0, 3, FRONT);
        same("drop", rows.drop(), 3);
        checks.outOfBounds("a dropped version", () -> rows.version(3, 0));
        same("the parent has no child now", rows.count(1), 1);
        same("a number is used again", rows.push(0, 77, BACK), 3);
        rowIs("the new version has its own row", rows, 3, "77");
        same("its depth", rows.version(3, 9), 1);
        rows.drop();
        same("undo of drop", rows.undo(), 3);
        rowIs("it is there again", rows, 3, "77");
        rows.drop();
        rows.drop();
        same("drop of the last one", rows.drop(), 1);
        checks.badState("drop again", rows::drop);
        EndVersions full = Rows.full();
        same("drop of the hundredth", full.drop(), 99);
        same("its number is free", full.push(0, 1, BACK), 99);
    }

    // ---- promise 6

    private static void clearTest() {
        EndVersions rows = new EndVersions();
        same("clear of nothing", rows.clear(), 0);
        same("clear of nothing is undoable", rows.undo(), 0);
        Rows.pushMany(rows, 0, 3, FRONT);
        rows.set(0, 5);
        rows.append('x');
        same("clear", rows.clear(), 3);
        same("the version 0 is left", rows.count(0), 1);
        same("settings stay", rows.setting(0), 5);
        same("the text stays", rows.clearText(), 1);
        checks.outOfBounds("a cleared version", () -> rows.at(1, 0));
        same("undo of clear", rows.undo(), 3);
        rowIs("the rows are there again", rows, 3, "2 1 0");
        rows.clear();
        same("numbers begin at 1 again", rows.push(0, 8, BACK), 1);
    }

    // ---- promise 7

    private static void versionTest() {
        EndVersions rows = new EndVersions();
        Rows.pushMany(rows, 0, 2, FRONT);
        rows.push(1, 3, BACK);
        rows.pop(2, BACK);
        int[] facts = {2, 1, 1, 0, 0, -1, 3, 2, 3, 3};
        for (int what = 0; what < facts.length; what++) {
            same("version 4, fact " + what, rows.version(4, what), facts[what]);
        }
        int[] rebuilding = {1, 2, 2, 0, 2, 1, 1, 0, 0, 2};
        for (int what = 0; what < rebuilding.length; what++) {
            same("version 2, fact " + what, rows.version(2, what), rebuilding[what]);
        }
        same("the parent is the version that the act was on", rows.version(3, 0), 1);
        same("the depth is that of the branch", rows.version(3, 9), 2);
        checks.outOfBounds("fact of no version", () -> rows.version(5, 0));
        checks.outOfBounds("the version is looked at first", () -> rows.version(-1, 10));
        checks.badArgument("fact 10", () -> rows.version(0, 10));
        checks.badArgument("fact -1", () -> rows.version(4, -1));
        checks.badArgument("the least fact", () -> rows.version(4, Integer.MIN_VALUE));
    }

    // ---- promise 8

    private static void valueTest() {
        EndVersions rows = new EndVersions();
        rows.push(0, -999, FRONT);
        rows.push(1, 999, BACK);
        rows.push(2, 0, FRONT);
        rows.pop(3, BACK);
        rows.pop(3, FRONT);
        same("pushed to the front", rows.value(1), -999);
        same("pushed to the back", rows.value(2), 999);
        same("pushed 0", rows.value(3), 0);
        same("popped at the back", rows.value(4), 999);
        same("popped at the front", rows.value(5), 0);
        checks.badState("value of the version 0", () -> rows.value(0));
        checks.outOfBounds("value of no version", () -> rows.value(6));
        checks.outOfBounds("value of a version below 0", () -> rows.value(-1));
    }

    // ---- promise 9

    private static void atTest() {
        EndVersions rows = new EndVersions();
        rows.push(0, 10, FRONT);
        rows.push(1, 20, BACK);
        rows.push(2, 30, FRONT);
        rows.pop(3, FRONT);
        same("the front one", rows.at(3, 0), 30);
        same("the middle one", rows.at(3, 1), 10);
        same("the back one", rows.at(3, 2), 20);
        same("after a pop", rows.at(4, 0), 10);
        checks.outOfBounds("place 3 of 3", () -> rows.at(3, 3));
        checks.outOfBounds("a place that the parent has", () -> rows.at(4, 2));
        checks.outOfBounds("a place below 0", () -> rows.at(3, -1));
        checks.outOfBounds("place 0 of an empty row", () -> rows.at(0, 0));
        checks.outOfBounds("the greatest place", () -> rows.at(3, Integer.MAX_VALUE));
        checks.outOfBounds("a place of no version", () -> rows.at(5, 0));
        checks.outOfBounds("a place of a version below 0", () -> rows.at(-1, 0));
        int last = Rows.pushMany(rows, 0, 40, BACK);
        same("place 39", rows.at(last, 39), 39);
        checks.outOfBounds("place 40", () -> rows.at(last, 40));
    }

    // ---- promise 10

    private static void stepsTest() {
        EndVersions rows = new EndVersions();
        Rows.pushMany(rows, 0, 3, FRONT);
        factsAre("two in front and one in the back", rows, 3, "3 2 1 0 -1 3 0");
        same("steps to the front one", rows.steps(3, 0), 1);
        same("steps to the next one", rows.steps(3, 1), 2);
        same("steps to the back one", rows.steps(3, 2), 1);
        rows.push(3, 4, BACK);
        same("steps in the back part", rows.steps(4, 2), 2);
        same("steps to the last one", rows.steps(4, 3), 1);
        same("all in front", rows.steps(2, 1), 2);
        checks.outOfBounds("steps to place 3 of 3", () -> rows.steps(3, 3));
        checks.outOfBounds("steps to a place below 0", () -> rows.steps(3, -1));
        checks.outOfBounds("steps in an empty row", () -> rows.steps(0, 0));
        checks.outOfBounds("steps in no version", () -> rows.steps(5, 0));
        checks.outOfBounds("steps in a version below 0", () -> rows.steps(-1, 0));
    }

    // ---- promise 11

    private static void countTest() {
        EndVersions rows = new EndVersions();
        Rows.pushMany(rows, 0, 2, FRONT);
        rows.pop(2, BACK);
        rows.push(2, 5, BACK);
        rows.push(0, 6, BACK);
        factsAre("a stalled pop", rows, 3, "1 1 0 0 -1 3 2");
        factsAre("a push with payment", rows, 4, "3 1 2 0 -1 3 0");
        int[] counts = {6, 3, 3, 9, 1, 2, 1, 3};
        for (int what = 0; what < counts.length; what++) {
            same("count " + what, rows.count(what), counts[what]);
        }
        rows.pop(2, BACK);
        same("two stalls", rows.count(4), 2);
        same("all extra steps", rows.count(5), 4);
        same("the sum of costs", rows.count(3), 12);
        checks.badArgument("count 8", () -> rows.count(8));
        checks.badArgument("count -1", () -> rows.count(-1));
        checks.badArgument("the greatest count", () -> rows.count(Integer.MAX_VALUE));
        EndVersions full = Rows.full();
        same("children of one", full.count(1), 99);
        same("depths of a star", full.count(7), 1);
    }

    // ---- promise 12

    private static void settingTest() {
        EndVersions rows = new EndVersions();
        rows.set(0, 7);
        rows.set(1, 4);
        same("the rate", rows.setting(0), 7);
        same("the ratio", rows.setting(1), 4);
        checks.badArgument("setting 2", () -> rows.setting(2));
        checks.badArgument("setting -1", () -> rows.setting(-1));
    }

    // ---- promise 13

    private static void commonTest() {
        EndVersions rows = new EndVersions();
        Rows.pushMany(rows, 0, 3, FRONT);
        rows.push(1, 5, BACK);
        rows.push(4, 6, BACK);
        rows.push(0, 7, BACK);
        same("two branches", rows.common(3, 5), 1);
        same("two branches, turned", rows.common(5, 3), 1);
        same("a version and its ancestor", rows.common(3, 1), 1);
        same("a version and its parent", rows.common(4, 5), 4);
        same("a version and itself", rows.common(5, 5), 5);
        same("branches from the version 0", rows.common(6, 5), 0);
        same("the version 0", rows.common(0, 3), 0);
        checks.outOfBounds("common of no version", () -> rows.common(7, 0));
        checks.outOfBounds("common with no version", () -> rows.common(0, 7));
        checks.outOfBounds("common with a version below 0", () -> rows.common(0, -1));
        checks.outOfBounds("common of a version below 0 with itself", () -> rows.common(-1, -1));
    }

    // ---- promise 14

    private static void sameTest() {
        EndVersions rows = new EndVersions();
        rows.push(0, 1, FRONT);
        rows.push(0, 1, BACK);
        rows.push(1, 2, BACK);
        rows.push(1, 2, FRONT);
        rows.pop(3, BACK);
        rows.push(0, 2, BACK);
        rows.pop(6, FRONT);
        checks.equal("the parts do not matter", rows.same(1, 2), true);
        checks.equal("another order", rows.same(3, 4), false);
        checks.equal("a row after a push and a pop", rows.same(1, 5), true);
        checks.equal("another value", rows.same(1, 6), false);
        checks.equal("the beginning of a row", rows.same(1, 3), false);
        checks.equal("the beginning of a row, turned", rows.same(3, 1), false);
        checks.equal("empty rows", rows.same(0, 7), true);
        checks.equal("itself", rows.same(4, 4), true);
        checks.outOfBounds("same of no version", () -> rows.same(8, 0));
        checks.outOfBounds("same with no version", () -> rows.same(0, 8));
        checks.outOfBounds("same of a version below 0", () -> rows.same(-1, 0));
    }

    // ---- promise 15

    private static void firstLikeTest() {
        EndVersions rows = new EndVersions();
        rows.push(0, 1, FRONT);
        rows.push(1, 2, BACK);
        rows.push(0, 2, BACK);
        rows.push(3, 1, FRONT);
        rows.pop(4, BACK);
        rows.pop(5, BACK);
        same("an empty row", rows.firstLike(6), 0);
        same("a row by another way", rows.firstLike(4), 2);
        same("a row after a pop", rows.firstLike(5), 1);
        same("a row of its own", rows.firstLike(3), 3);
        same("the version 0", rows.firstLike(0), 0);
        checks.outOfBounds("firstLike of no version", () -> rows.firstLike(7));
        checks.outOfBounds("firstLike of a version below 0", () -> rows.firstLike(-1));
    }

    // ---- promises 16 and 17

    private static void worstTest() {
        EndVersions rows = new EndVersions();
        Rows.pushMany(rows, 0, 3, FRONT);
        rows.push(3, 1, FRONT);
        rows.push(1, 1, BACK);
        same("the costs 1, 1, 3", rows.worst(3), 3);
        same("the costs 1, 1", rows.worst(2), 1);
        same("a cost before the last one", rows.worst(4), 3);
        same("another branch", rows.worst(5), 1);
        same("the version 0", rows.worst(0), 0);
        checks.outOfBounds("worst of no version", () -> rows.worst(6));
        checks.outOfBounds("worst of a version below 0", () -> rows.worst(-1));
    }

    private static void meanTest() {
        EndVersions rows = new EndVersions();
        Rows.pushMany(rows, 0, 3, FRONT);
        rows.push(3, 1, FRONT);
        rows.push(1, 1, BACK);
        checks.equal("the costs 1, 1, 3", rows.mean(3), 5.0 / 3.0);
        checks.equal("the costs 1, 1, 3, 1", rows.mean(4), 1.5);
        checks.equal("another branch", rows.mean(5), 1.0);
        checks.equal("the version 0", rows.mean(0), 0.0);
        checks.outOfBounds("mean of no version", () -> rows.mean(6));
        checks.outOfBounds("mean of a version below 0", () -> rows.mean(-1));
    }

    // ---- promises 18 and 19

    private static void appendTest() {
        EndVersions rows = new EndVersions();
        same("the byte 0", rows.append(0), 1);
        same("the byte 127", rows.append(127), 2);
        checks.badArgument("the byte 128", () -> rows.append(128));
        checks.badArgument("the byte -1", () -> rows.append(-1));
        checks.changesNothing("the byte 128", rows, () -> rows.append(128));
        checks.badState("append is not undoable", rows::undo);
        for (int length = 3; length <= 100; length++) {
            same("append", rows.append('x'), length);
        }
        checks.badState("append to 100 bytes", () -> rows.append('x'));
        checks.badArgument("the byte is looked at first", () -> rows.append(128));
        checks.changesNothing("append to 100 bytes", rows, () -> rows.append('x'));
        same("100 bytes", rows.clearText(), 100);
    }

    private static void clearTextTest() {
        EndVersions rows = Rows.withText("f1;");
        same("clearText", rows.clearText(), 3);
        same("clearText again", rows.clearText(), 0);
        checks.badState("clearText is not undoable", rows::undo);
        same("an empty text has no acts", rows.run(0), 0);
        same("append begins at 1 again", rows.append('b'), 1);
        Rows.write(rows, "-12;");
        same("the new text is run", rows.run(0), 1);
        rowIs("the new text", rows, 1, "-12");
    }

    // ---- promise 20

    private static void runTest() {
        EndVersions rows = Rows.withText("f1;b-2;f003;y;x;b-0;");
        same("run", rows.run(0), 6);
        same("each act makes a version", rows.count(0), 7);
        rowIs("acts in a row", rows, 3, "3 1 -2");
        rowIs("pops in a text", rows, 5, "1");
        rowIs("a minus before 0", rows, 6, "1 0");
        same("the parent is the version before", rows.version(6, 0), 5);
        same("one saved state", rows.undo(), 0);
        same("the versions before the run", rows.count(0), 1);
        rows.run(0);
        same("run from another version", rows.run(3), 6);
        same("the first parent", rows.version(7, 0), 3);
        same("the text stays", rows.clearText(), 20);
        Rows.write(rows, "x;y;x;y;");
        same("up to a pop on an empty row", rows.run(3), 3);
        same("no act is done", rows.run(0), 0);
        same("a run without acts is undoable", rows.undo(), 3);
        checks.outOfBounds("run from no version", () -> rows.run(99));
        checks.outOfBounds("run from a version below 0", () -> rows.run(-1));
        rows.clearText();
        Rows.write(rows, "q");
        checks.outOfBounds("the version is looked at before the text", () -> rows.run(99));
        runLimits();
    }

    private static void runLimits() {
        EndVersions rows = Rows.withText("f1;");
        int last = Rows.pushMany(rows, 0, 40, BACK);
        same("a push on 40 values", rows.run(last), 0);
        rows.clearText();
        Rows.write(rows, "x;f5;b6;x;");
        same("up to a push on 40 values", rows.run(last), 2);
        EndVersions full = Rows.full();
        full.drop();
        full.drop();
        Rows.write(full, "x;f1;b2;");
        same("up to 100 versions", full.run(1), 2);
        same("100 versions", full.count(0), 100);
        same("no act at 100 versions", full.run(1), 0);
        EndVersions fifty = Rows.withText("f1;".repeat(20) + "x;".repeat(20));
        same("forty acts", fifty.run(0), 40);
        EndVersions pops = Rows.withText("x;".repeat(50));
        int forty = Rows.pushMany(pops, 0, 40, FRONT);
        same("fifty acts, forty values", pops.run(forty), 40);
    }

    private static void syntaxTest() {
        String[] texts = {"", "f", "b", "f-", "f1", "f12", "f123", "f1234", "f1234;", "f;", "f-;", "f--1;", "f1-;",
            "x", "xx;", "x;;", ";", " ", "f 1;", "f1;y;b2", "f1;y;z;", "f-999;b999;q", "y1;", "-1;", "1;", "F1;",
            "x;f-0000;", "f/;", "f:;", "b-12;x-;", "\0", "x;\u007f", "f1;b", "b-123"};
        int[] errors = {-1, 1, 1, 2, 2, 3, 4, 4, 4, 1, 2, 2, 2,
            1, 1, 2, 0, 0, 1, 7, 5, 11, 1, 0, 0, 0,
            7, 1, 1, 6, 0, 2, 4, 5};
        for (int i = 0; i < texts.length; i++) {
            EndVersions rows = Rows.withText(texts[i]);
            String told = "run of '" + texts[i] + "'";
            if (errors[i] < 0) {
                same(told, rows.run(0), 0);
            } else {
                same(told, rows.run(0), -10 - errors[i]);
                same(told + " makes nothing", rows.count(0), 1);
                checks.badState(told + " saves nothing", rows::undo);
                checks.badState(told + " with stalls", () -> rows.stalls(0, 1));
                checks.badState(told + " with worstWith", () -> rows.worstWith(0, 1));
                checks.badState(told + " with leastRate", () -> rows.leastRate(0));
            }
        }
        EndVersions ends = Rows.withText("x;".repeat(49) + "f1");
        same("a text of 100 bytes that ends too early", ends.run(0), -110);
    }

    // ---- promises 21 to 23

    /** Pushes two to the front, so that pops at the back stall while the rebuild lasts. */
    private static final String STALLING = "f1;f2;y;f3;f4;y;";

    private static void stallsTest() {
        EndVersions rows = Rows.withText(STALLING);
        long before = rows.digest();
        same("stalls with 3", rows.stalls(0, 3), 1);
        same("stalls with 1", rows.stalls(0, 1), 2);
        same("stalls change nothing", rows.digest(), before);
        same("from a version with a rebuild", Rows.pushMany(rows, 0, 2, FRONT), 2);
        rows.clearText();
        same("without acts", rows.stalls(2, 1), 0);
        Rows.write(rows, "y;y;y;");
        same("up to the first act that is not possible", rows.stalls(2, 9), 1);
        same("no act is possible", rows.stalls(0, 9), 0);
        checks.outOfBounds("stalls from no version", () -> rows.stalls(3, 1));
        checks.outOfBounds("the version is looked at first", () -> rows.stalls(-1, 0));
        checks.badArgument("rate 0", () -> rows.stalls(0, 0));
        checks.badArgument("rate 10", () -> rows.stalls(0, 10));
        rows.append('q');
        checks.badArgument("the rate is looked at before the text", () -> rows.stalls(0, 10));
        checks.badState("a syntax error", () -> rows.stalls(0, 9));
        stallsAtHundred();
    }

    private static void stallsAtHundred() {
        EndVersions rows = Rows.full();
        rows.drop();
        rows.drop();
        rows.drop();
        Rows.write(rows, "f2;y;");
        same("two acts of two", rows.stalls(1, 1), 1);
        same("two costs", rows.worstWith(1, 1), 3);
        same("a stall with each rate", rows.leastRate(1), -1);
        rows.push(0, 1, FRONT);
        rows.push(0, 1, FRONT);
        same("one act of two", rows.stalls(1, 1), 0);
        same("one cost", rows.worstWith(1, 1), 1);
        same("no stall", rows.leastRate(1), 1);
        rows.push(0, 1, FRONT);
        same("no act at 100 versions", rows.stalls(1, 1), 0);
        same("no cost at 100 versions", rows.worstWith(1, 1), 0);
    }

    private static void worstWithTest() {
        EndVersions rows = Rows.withText("f1;f2;f3;f4;");
        long before = rows.digest();
        same("pays 2 of 2", rows.worstWith(0, 9), 3);
        same("pays 1 of 2", rows.worstWith(0, 1), 2);
        same("worstWith changes nothing", rows.digest(), before);
        rows.clearText();
        same("without acts", rows.worstWith(0, 1), 0);
        Rows.write(rows, "x;");
        same("no act is possible", rows.worstWith(0, 1), 0);
        Rows.pushMany(rows, 0, 2, FRONT);
        rows.set(0, 1);
        same("the debt of the start", rows.worstWith(2, 9), 3);
        same("the rate of the call holds", rows.worstWith(2, 2), 3);
        same("the rate of the call, 1", rows.worstWith(2, 1), 2);
        checks.outOfBounds("worstWith from no version", () -> rows.worstWith(3, 1));
        checks.outOfBounds("the version is looked at first", () -> rows.worstWith(-1, 0));
        checks.badArgument("rate 0", () -> rows.worstWith(0, 0));
        checks.badArgument("rate 10", () -> rows.worstWith(0, 10));
        rows.append('f');
        checks.badArgument("the rate is looked at before the text", () -> rows.worstWith(0, 0));
        checks.badState("a syntax error", () -> rows.worstWith(0, 1));
        ratioOfTheQuestion();
    }

    // Three beside nothing are too many with each ratio; four beside one only with the ratio 2.
    private static void ratioOfTheQuestion() {
        EndVersions rows = Rows.withText("b1;f2;f3;f4;f5;f6;");
        rows.set(1, 2);
        same("the ratio 2 has a rebuild", rows.worstWith(0, 9), 6);
        rows.set(1, 5);
        same("the ratio 5 has none", rows.worstWith(0, 9), 1);
    }

    private static void leastRateTest() {
        EndVersions rows = Rows.withText("f1;f2;f3;y;");
        long before = rows.digest();
        same("the debt 2 has one act to be paid in", rows.leastRate(0), 2);
        same("leastRate changes nothing", rows.digest(), before);
        rows.clearText();
        same("without acts", rows.leastRate(0), 1);
        Rows.write(rows, STALLING);
        same("stalls with each rate", rows.leastRate(0), -1);
        rows.clearText();
        Rows.write(rows, "x;y;");
        same("no act is possible", rows.leastRate(0), 1);
        checks.outOfBounds("leastRate from no version", () -> rows.leastRate(1));
        rows.append('1');
        checks.outOfBounds("the version is looked at first", () -> rows.leastRate(-1));
        checks.badState("a syntax error", () -> rows.leastRate(0));
        higherLeastRates();
        highestLeastRate();
    }

    // With the ratio 2, eight in front beside two begin a rebuild; two pops take the back part, the third one stalls.
    private static void higherLeastRates() {
        EndVersions rows = new EndVersions();
        rows.set(1, 5);
        Rows.write(rows, "b1;f2;b3;f4;f5;f6;f7;f8;f9;");
        same("nine acts", rows.run(0), 9);
        factsAre("the ratio 5 lets seven stand beside two", rows, 9, "9 7 2 0 -1 1 0");
        rows.set(1, 2);
        rows.clearText();
        Rows.write(rows, "f0;y;y;y;");
        same("the debt 10 has two acts to be paid in", rows.leastRate(9), 5);
        same("it stalls with 4", rows.stalls(9, 4), 1);
        rows.clearText();
        Rows.write(rows, "f0;f0;f0;f0;f0;f0;f0;y;y;y;");
        same("the debt 10 has six acts more to be paid in", rows.leastRate(9), 2);
    }

    // A pop at the back leaves two beside fifteen: the debt 17 is to be paid while these two are popped.
    private static void highestLeastRate() {
        EndVersions rows = new EndVersions();
        rows.set(1, 5);
        Rows.write(rows, "b1;f2;b3;f4;b5;" + "f6;".repeat(13));
        same("eighteen acts", rows.run(0), 18);
        factsAre("the ratio 5 lets fifteen stand beside three", rows, 18, "18 15 3 0 -1 1 0");
        rows.clearText();
        Rows.write(rows, "y;y;y;");
        same("no part is empty yet", rows.leastRate(18), 1);
        Rows.write(rows, "y;");
        same("only the rate 9 pays it in two acts", rows.leastRate(18), 9);
        same("it stalls with 8", rows.stalls(18, 8), 1);
        same("the stall with 8 takes the 1 that is left", rows.worstWith(18, 8), 9);
        same("the stall with 1 takes 15", rows.worstWith(18, 1), 16);
    }

    // ---- promise 24

    private static void undoTest() {
        EndVersions rows = new EndVersions();
        checks.badState("undo of nothing", rows::undo);
        checks.changesNothing("undo of nothing", rows, rows::undo);
        Rows.pushMany(rows, 0, 6, BACK);
        for (int left = 3; left >= 0; left--) {
            same("undo", rows.undo(), left);
            same("versions after undo", rows.count(0), 3 + left);
        }
        checks.badState("only four are saved", rows::undo);
        rowIs("the row that is left", rows, 2, "0 1");
        rows.append('x');
        rows.set(0, 5);
        rows.append(';');
        same("undo of set", rows.undo(), 0);
        same("the text is not undone", rows.clearText(), 2);
        same("the setting is", rows.setting(0), 3);
        undoKeepsOldRows();
        undoOfEach();
    }

    private static void undoKeepsOldRows() {
        EndVersions rows = new EndVersions();
        rows.push(0, 1, BACK);
        rows.push(1, 2, BACK);
        rows.drop();
        rows.push(1, 3, FRONT);
        rowIs("a number that is used again", rows, 2, "3 1");
        rows.undo();
        rows.undo();
        rowIs("the old row under this number", rows, 2, "1 2");
        same("two are left", rows.undo(), 1);
        rows.push(1, 4, BACK);
        rowIs("a push after undo", rows, 2, "1 4");
        same("undo after undo and push", rows.undo(), 1);
        same("the first push is undone", rows.undo(), 0);
        same("the version 0 is left", rows.count(0), 1);
    }

    private static void undoOfEach() {
        EndVersions rows = Rows.withText("f1;b2;y;");
        Rows.pushMany(rows, 0, 2, FRONT);
        rows.pop(2, BACK);
        long before = digestOfVersions(rows);
        int saved = 3;
        Checks.Call[] calls = {() -> rows.set(1, 4), () -> rows.set(0, 9), () -> rows.push(1, 8, FRONT),
            () -> rows.pop(3, FRONT), rows::drop, rows::clear, () -> rows.run(3), () -> rows.run(0)};
        for (int i = 0; i < calls.length; i++) {
            calls[i].answer();
            same("undo of the act " + i, rows.undo(), saved);
            same("the state after undo of the act " + i, digestOfVersions(rows), before);
            same("the value after undo of the act " + i, rows.value(3), 0);
        }
        checks.changesNothing("a wrong call", rows, () -> rows.push(5, 0, FRONT));
        same("wrong calls save nothing", rows.undo(), saved - 1);
    }

    private static long digestOfVersions(EndVersions rows) {
        long hash = hash(rows.setting(0), rows.setting(1), rows.count(0));
        for (int version = 0; version < rows.count(0); version++) {
            for (int what = 0; what <= 9; what++) {
                hash = 31 * hash + rows.version(version, what);
            }
            for (int place = 0; place < rows.version(version, 1); place++) {
                hash = 31 * hash + rows.at(version, place);
            }
        }
        return hash;
    }

    // ---- promise 25

    private static long hash(long... values) {
        long hash = 3767;
        for (long value : values) {
            hash = 31 * hash + value;
        }
        return hash;
    }

    private static void digestTest() {
        EndVersions rows = new EndVersions();
        same("a new object", rows.digest(), hash(0, 1, 1, 0, 0, 0, 0, 0, 0, 3, 3, -1, 0, 0, 0, 0, -1, 0, 0, -1, 0, 0));
        rows.append('x');
        rows.push(0, -7, BACK);
        rows.push(1, 8, BACK);
        same("two pushes", rows.digest(), hash(1, 3, 1, 1, 2, 0, 0, 1, 2, 3, 3,
            -1, 0, 0, 0, 0, -1, 0, 0, -1, 0,
            0, 1, 0, 1, 0, -1, 1, 0, 1, 1, -7,
            1, 2, 0, 2, 2, 1, 1, 0, 1, 2, -7, 8,
            2));
        same("digest changes nothing", rows.digest(), rows.digest());
        rows.set(0, 9);
        rows.set(1, 2);
        rows.drop();
        same("after a drop", rows.digest(), hash(1, 2, 1, 1, 1, 0, 0, 0, 1, 9, 2,
            -1, 0, 0, 0, 0, -1, 0, 0, -1, 0,
            0, 1, 0, 1, 0, -1, 1, 0, 1, 1, -7,
            4));
    }
}
