/** The promises 7 to 12: version, value, at, steps, count and setting. */
final class ValueEdges {
    private static final boolean FRONT = Rows.FRONT;
    private static final boolean BACK = Rows.BACK;

    private final Edges edges;

    ValueEdges(Edges edges) {
        this.edges = edges;
    }

    void run() {
        versionParent();
        versionSizes();
        versionRebuild();
        versionCost();
        versionAct();
        versionDepth();
        versionRefused();
        value();
        valueRefused();
        at();
        atRefused();
        steps();
        stepsOfEmptyPart();
        stepsRefused();
        countVersions();
        countCosts();
        countStalls();
        countRest();
        countOfDropped();
        countRefused();
        setting();
    }

    private void factOfEach(EndVersions rows, int what, int... due) {
        for (int version = 0; version < due.length; version++) {
            edges.is("the fact " + what + " of " + version, rows.version(version, what), due[version]);
        }
    }

    // ---- promise 7

    private void versionParent() {
        edges.promise(7, "Returns something about a version.");
        factOfEach(new EndVersions(), 1, 0);
        edges.promise(7, "0 its parent (NONE for the version 0)");
        factOfEach(Rows.busy(), 0, EndVersions.NONE, 0, 1, 2, 2, 1, 5);
        edges.is("the greatest one", Rows.chain().version(99, 0), 98);
        edges.is("the least one", Rows.full().version(99, 0), 0);
        edges.promise(7, "Returns that value.");
        edges.is("of a new object", new EndVersions().version(0, 0), -1);
    }

    private void versionSizes() {
        edges.promise(7, "1 the size of its row");
        factOfEach(Rows.busy(), 1, 0, 1, 2, 1, 3, 2, 1);
        edges.is("of the full row", Rows.fullRow().version(40, 1), 40);
        edges.is("of an emptied row", Rows.after(3, 3, "f1 x").version(2, 1), 0);
        edges.promise(7, "2 that of its front part, 3 that of its back part");
        factOfEach(Rows.busy(), 2, 0, 1, 2, 1, 2, 2, 1);
        factOfEach(Rows.busy(), 3, 0, 0, 0, 0, 1, 0, 0);
    }

    private void versionRebuild() {
        edges.promise(7, "4 its debt (0 without a rebuild in progress)");
        factOfEach(Rows.busy(), 4, 0, 0, 2, 0, 1, 2, 1);
        edges.promise(7, "5 its goal (NONE without one)");
        factOfEach(Rows.busy(), 5, EndVersions.NONE, EndVersions.NONE, 1, EndVersions.NONE, 1, 1, 0);
    }

    private void versionCost() {
        edges.promise(7, "6 its cost (0 for the version 0)");
        factOfEach(Rows.busy(), 6, 0, 1, 1, 3, 2, 1, 2);
        edges.promise(7, "7 the extra steps in it");
        factOfEach(Rows.busy(), 7, 0, 0, 0, 2, 0, 0, 0);
        EndVersions both = Rows.after(1, 2, "b1 f2 b3 f4 f5 f6 f7 f8 x x x x x x x");
        edges.is("the debt and the other part", both.version(15, 7), 3);
        edges.is("they are a part of the cost", both.version(15, 6), 4);
    }

    private void versionAct() {
        edges.promise(7, "0 pushed to the front, 1 pushed to the back, 2 popped at the front, 3 popped at the back");
        factOfEach(Rows.busy(), 8, EndVersions.NONE, 0, 0, 3, 1, 0, 2);
        EndVersions rows = Rows.withText("f1;b2;x;y;");
        rows.run(0);
        edges.promise(7, "(NONE for the version 0)");
        factOfEach(rows, 8, EndVersions.NONE, 0, 1, 2, 3);
    }

    private void versionDepth() {
        edges.promise(7, "9 its depth, that is the number of acts from the version 0 to it");
        factOfEach(Rows.busy(), 9, 0, 1, 2, 3, 3, 2, 3);
        edges.is("the greatest one", Rows.chain().version(99, 9), 99);
        edges.is("the least one of an act", Rows.full().version(99, 9), 1);
    }

    private void versionRefused() {
        edges.promise(7, "`version`: number of a version");
        edges.is("the first one", Rows.full().version(0, 9), 0);
        edges.is("the last one", Rows.full().version(99, 9), 1);
        edges.promise(7, "if there is no such version");
        edges.refused("-1", Rows::busy, rows -> rows.version(-1, 0), Edges.BOUNDS);
        edges.refused("7 of 7", Rows::busy, rows -> rows.version(7, 0), Edges.BOUNDS);
        edges.refused("100 of 100", Rows::full, rows -> rows.version(100, 9), Edges.BOUNDS);
        edges.promise(7, "if what is out of range");
        edges.refused("-1", Rows::busy, rows -> rows.version(6, -1), Edges.ARGUMENT);
        edges.refused("10", Rows::busy, rows -> rows.version(6, 10), Edges.ARGUMENT);
        for (int far : Edges.FAR) {
            edges.refused("the version " + far, Rows::busy, rows -> rows.version(far, 0), Edges.BOUNDS);
            edges.refused("what " + far, Rows::busy, rows -> rows.version(0, far), Edges.ARGUMENT);
        }
    }

    // ---- promise 8

    private void value() {
        edges.promise(8, "Returns the value that was pushed or popped when a version was made.");
        EndVersions rows = Rows.busy();
        int[] due = {1, 2, 1, -3, 5, 5};
        for (int version = 1; version <= 6; version++) {
            edges.is("the version " + version, rows.value(version), due[version - 1]);
        }
        edges.promise(8, "Returns the value.");
        EndVersions ends = Rows.after(3, 3, "b-999 b999 b0 x x x");
        int[] values = {-999, 999, 0, -999, 999, 0};
        for (int version = 1; version <= 6; version++) {
            edges.is("the version " + version, ends.value(version), values[version - 1]);
        }
        EndVersions full = Rows.fullRow();
        edges.is("popped at the front of a full row", full.value(full.pop(40, FRONT)), 0);
        edges.is("popped at the back of a full row", full.value(full.pop(40, BACK)), 39);
    }

    private void valueRefused() {
        edges.promise(8, "`version`: number of a version");
        edges.is("the last one", Rows.full().value(99), 99);
        edges.promise(8, "if there is no such version");
        edges.refused("-1", Rows::busy, rows -> rows.value(-1), Edges.BOUNDS);
        edges.refused("7 of 7", Rows::busy, rows -> rows.value(7), Edges.BOUNDS);
        edges.refused("100 of 100", Rows::full, rows -> rows.value(100), Edges.BOUNDS);
        for (int far : Edges.FAR) {
            edges.refused("" + far, Rows::busy, rows -> rows.value(far), Edges.BOUNDS);
        }
        edges.promise(8, "if it is the version 0");
        edges.refused("of a new object", EndVersions::new, rows -> rows.value(0), Edges.STATE);
        edges.refused("of 100 versions", Rows::full, rows -> rows.value(0), Edges.STATE);
        edges.is("the version 1", Rows.full().value(1), 1);
    }

    // ---- promise 9

    private void at() {
        edges.promise(9, "Returns a value of the row of a version.");
        edges.is("the only one", Rows.star(8).at(7, 0), 7);
        edges.promise(9, "`version`: number of a version");
        edges.is("the last version", Rows.full().at(99, 0), 99);
        edges.promise(9, "`place`: 0 for the front one, and so on");
        EndVersions full = Rows.fullRow();
        for (int place = 0; place < 40; place++) {
            edges.is("the place " + place, full.at(40, place), place);
        }
        edges.promise(9, "Returns the value.");
        EndVersions rows = Rows.after(3, 3, "f1 f2 b3");
        edges.is("the last one of the front part", rows.at(3, 0), 2);
        edges.is("the first one of the back part", rows.at(3, 1), 1);
        edges.is("the last one of the back part", rows.at(3, 2), 3);
    }

    private void atRefused() {
        edges.promise(9, "if there is no such version");
        edges.refused("-1", Rows::busy, rows -> rows.at(-1, 0), Edges.BOUNDS);
        edges.refused("7 of 7", Rows::busy, rows -> rows.at(7, 0), Edges.BOUNDS);
        edges.refused("100 of 100", Rows::full, rows -> rows.at(100, 0), Edges.BOUNDS);
        edges.promise(9, "or its row has not so many values");
        edges.refused("0 of 0", Rows::busy, rows -> rows.at(0, 0), Edges.BOUNDS);
        edges.refused("1 of 1", Rows::busy, rows -> rows.at(6, 1), Edges.BOUNDS);
        edges.refused("-1 of 3", Rows::busy, rows -> rows.at(4, -1), Edges.BOUNDS);
        edges.refused("3 of 3", Rows::busy, rows -> rows.at(4, 3), Edges.BOUNDS);
        edges.refused("40 of 40", Rows::fullRow, rows -> rows.at(40, 40), Edges.BOUNDS);
        edges.refused("39 of 39", Rows::fullRow, rows -> rows.at(39, 39), Edges.BOUNDS);
        edges.refused("0 of an emptied row", () -> Rows.after(3, 3, "f1 x"), rows -> rows.at(2, 0), Edges.BOUNDS);
        for (int far : Edges.FAR) {
            edges.refused("the version " + far, Rows::busy, rows -> rows.at(far, 0), Edges.BOUNDS);
            edges.refused("the place " + far, Rows::busy, rows -> rows.at(4, far), Edges.BOUNDS);
        }
    }

    // ---- promise 10

    private void steps() {
        edges.promise(10, "Returns the steps to a place from the end in whose part it is.");
        EndVersions rows = new EndVersions();
        int last = Rows.grow(rows, 3, 4);
        edges.promise(10, "`place`: 0 for the front one, and so on");
        int[] due = {1, 2, 3, 4, 3, 2, 1};
        edges.promise(10, "place + 1 if the place is in the front part, otherwise the size of the row minus place.");
        for (int place = 0; place < due.length; place++) {
            edges.is("the place " + place + " of 3 and 4", rows.steps(last, place), due[place]);
        }
        edges.promise(10, "`version`: number of a version");
        edges.is("the last version", Rows.full().steps(99, 0), 1);
    }

    private void stepsOfEmptyPart() {
        edges.promise(10, "if the place is in the front part, otherwise");
        EndVersions rows = Rows.after(1, 3, "f1 f2 f3");
        rows.push(0, 1, BACK);
        rows.push(4, 2, BACK);
        rows.push(5, 3, BACK);
        for (int place = 0; place < 3; place++) {
            edges.is("the place " + place + " of 3 and 0", rows.steps(3, place), place + 1);
            edges.is("the place " + place + " of 0 and 3", rows.steps(6, place), 3 - place);
        }
        EndVersions full = new EndVersions();
        int last = Rows.grow(full, 20, 20);
        edges.is("the last of 20 in front", full.steps(last, 19), 20);
        edges.is("the first of 20 in the back", full.steps(last, 20), 20);
        edges.is("the last of a full row", full.steps(last, 39), 1);
        edges.is("the first of a full row", full.steps(last, 0), 1);
    }

    private void stepsRefused() {
        edges.promise(10, "if there is no such version");
        edges.refused("-1", Rows::busy, rows -> rows.steps(-1, 0), Edges.BOUNDS);
        edges.refused("7 of 7", Rows::busy, rows -> rows.steps(7, 0), Edges.BOUNDS);
        edges.refused("100 of 100", Rows::full, rows -> rows.steps(100, 0), Edges.BOUNDS);
        edges.promise(10, "or its row has not so many values");
        edges.refused("0 of 0", Rows::busy, rows -> rows.steps(0, 0), Edges.BOUNDS);
        edges.refused("1 of 1", Rows::busy, rows -> rows.steps(6, 1), Edges.BOUNDS);
        edges.refused("-1 of 3", Rows::busy, rows -> rows.steps(4, -1), Edges.BOUNDS);
        edges.refused("3 of 3", Rows::busy, rows -> rows.steps(4, 3), Edges.BOUNDS);
        edges.refused("40 of 40", Rows::fullRow, rows -> rows.steps(40, 40), Edges.BOUNDS);
        for (int far : Edges.FAR) {
            edges.refused("the version " + far, Rows::busy, rows -> rows.steps(far, 0), Edges.BOUNDS);
            edges.refused("the place " + far, Rows::busy, rows -> rows.steps(4, far), Edges.BOUNDS);
        }
    }

    // ---- promise 11

    private void countIs(String what, EndVersions rows, int number, int due) {
        edges.is(what, rows.count(number), due);
    }

    private void countVersions() {
        edges.promise(11, "Returns a number.");
        edges.promise(11, "0 the versions");
        countIs("of a new object", new EndVersions(), 0, 1);
        countIs("of a full one", Rows.full(), 0, 100);
        edges.promise(11, "1 the versions without children");
        countIs("the version 0 alone", new EndVersions(), 1, 1);
        countIs("one child", Rows.star(2), 1, 1);
        countIs("all but the version 0", Rows.full(), 1, 99);
        countIs("the last of a row of acts", Rows.chain(), 1, 1);
        countIs("branches", Rows.busy(), 1, 3);
        EndVersions dropped = Rows.after(3, 3, "f1 f2 f3");
        dropped.drop();
        countIs("a parent whose child is dropped", dropped, 1, 1);
        dropped.push(1, 1, BACK);
        countIs("a number that is used again", dropped, 1, 2);
        edges.promise(11, "Returns that number.");
        countIs("after all", dropped, 0, 4);
    }

    private void countCosts() {
        edges.promise(11, "2 the greatest cost of a version");
        countIs("the version 0 alone", new EndVersions(), 2, 0);
        countIs("one act", Rows.star(2), 2, 1);
        countIs("the cost of the last version", Rows.after(3, 3, "f1 f2 f3"), 2, 3);
        countIs("a cost before the last one", Rows.after(3, 3, "f1 f2 f3 b4"), 2, 3);
        edges.promise(11, "3 the sum of all costs");
        countIs("the version 0 alone", new EndVersions(), 3, 0);
        countIs("one act", Rows.star(2), 3, 1);
        countIs("a full one", Rows.full(), 3, 99);
        countIs("a row of acts", Rows.chain(), 3, 101);
        countIs("branches", Rows.busy(), 3, 10);
    }

    private void countStalls() {
        edges.promise(11, "4 the versions whose acts stalled");
        countIs("the version 0 alone", new EndVersions(), 4, 0);
        countIs("extra steps of 1", Rows.after(1, 3, "f1 f2 x y"), 4, 1);
        countIs("extra steps of 0", Rows.after(1, 3, "f1 y b2 x"), 4, 0);
        EndVersions many = Rows.after(1, 3, "f1 f2");
        for (int i = 0; i < 97; i++) {
            many.pop(2, BACK);
        }
        countIs("all but three", many, 4, 97);
        edges.promise(11, "5 the sum of all extra steps");
        countIs("the version 0 alone", new EndVersions(), 5, 0);
        countIs("extra steps of 1", Rows.after(1, 3, "f1 f2 x y"), 5, 1);
        countIs("extra steps of 2, 97 times", many, 5, 194);
    }

    private void countRest() {
        edges.promise(11, "6 the versions with a rebuild in progress");
        countIs("the version 0 alone", new EndVersions(), 6, 0);
        countIs("a debt of 1 and a goal of 0 too", Rows.busy(), 6, 4);
        countIs("one that is over", Rows.after(3, 3, "f1 f2 f3"), 6, 1);
        edges.promise(11, "7 the greatest depth");
        countIs("the version 0 alone", new EndVersions(), 7, 0);
        countIs("a star", Rows.full(), 7, 1);
        countIs("a row of acts", Rows.chain(), 7, 99);
        EndVersions rows = Rows.after(3, 3, "f1 b2 f3");
        rows.push(0, 1, BACK);
        countIs("not that of the last version", rows, 7, 3);
    }

    // What is counted is that of the versions that there are, not that of those that were dropped.
    private void countOfDropped() {
        edges.promise(11, "0 the versions, 1 the versions without children, 2 the greatest cost of a version");
        EndVersions rows = Rows.after(1, 2, "b1 f2 b3 f4 f5 f6 f7 f8 x x x x x x x");
        int[] with = {16, 1, 4, 24, 1, 3, 7, 15};
        int[] without = {15, 1, 2, 20, 0, 0, 7, 14};
        int[] alone = {1, 1, 0, 0, 0, 0, 0, 0};
        for (int what = 0; what < with.length; what++) {
            countIs("with a stall at the end, " + what, rows, what, with[what]);
        }
        rows.drop();
        for (int what = 0; what < without.length; what++) {
            countIs("without it, " + what, rows, what, without[what]);
        }
        rows.clear();
        for (int what = 0; what < alone.length; what++) {
            countIs("after clear, " + what, rows, what, alone[what]);
        }
        rows.push(0, 1, BACK);
        countIs("the costs after clear and a push", rows, 3, 1);
        EndVersions last = Rows.after(1, 3, "f1 f2");
        last.drop();
        countIs("a rebuild that is dropped", last, 6, 0);
    }

    private void countRefused() {
        edges.promise(11, "if what is out of range");
        edges.refused("-1", Rows::busy, rows -> rows.count(-1), Edges.ARGUMENT);
        edges.refused("8", Rows::busy, rows -> rows.count(8), Edges.ARGUMENT);
        for (int far : Edges.FAR) {
            edges.refused("" + far, Rows::busy, rows -> rows.count(far), Edges.ARGUMENT);
        }
    }

    // ---- promise 12

    private void setting() {
        edges.promise(12, "Returns a setting.");
        EndVersions rows = Rows.busy();
        edges.promise(12, "`what`: 0 or 1");
        edges.is("0", rows.setting(0), 1);
        edges.is("1", rows.setting(1), 4);
        edges.promise(12, "Returns its value.");
        edges.is("the rate of a new object", new EndVersions().setting(0), 3);
        edges.is("the ratio of a new object", new EndVersions().setting(1), 3);
        edges.promise(12, "if what is out of range");
        edges.refused("-1", Rows::busy, all -> all.setting(-1), Edges.ARGUMENT);
        edges.refused("2", Rows::busy, all -> all.setting(2), Edges.ARGUMENT);
        for (int far : Edges.FAR) {
            edges.refused("" + far, Rows::busy, all -> all.setting(far), Edges.ARGUMENT);
        }
    }
}
