/** The promises 1 to 6: a new object, set, push, pop, drop and clear. */
final class MakingEdges {
    private static final boolean FRONT = Rows.FRONT;
    private static final boolean BACK = Rows.BACK;

    private final Edges edges;

    MakingEdges(Edges edges) {
        this.edges = edges;
    }

    void run() {
        newObject();
        set();
        setRefused();
        push();
        pushValues();
        pushOnNoVersion();
        pushOnForty();
        pushOnHundred();
        pop();
        popOnNoVersion();
        popOnEmptyRow();
        popOnHundred();
        drop();
        dropAlone();
        clear();
    }

    // ---- promise 1

    private void newObject() {
        edges.promise(1, "Creates the version 0 alone.");
        EndVersions rows = new EndVersions();
        edges.is("the versions", rows.count(0), 1);
        edges.facts("the version 0", rows, 0, "0 0 0 0 -1 0 0");
        edges.throwsOne("the version 1", () -> rows.version(1, 0), Edges.BOUNDS);
        edges.throwsOne("a saved state", rows::undo, Edges.STATE);
        edges.is("the text", rows.clearText(), 0);
        edges.is("the rate", rows.setting(0), 3);
        edges.is("the ratio", rows.setting(1), 3);
        edges.is("another object is another one", Rows.full().count(0) - new EndVersions().count(0), 99);
    }

    // ---- promise 2

    private void set() {
        edges.promise(2, "Sets a setting.");
        EndVersions rows = new EndVersions();
        rows.set(0, 4);
        edges.is("the ratio stays", rows.setting(1), 3);
        rows.set(1, 5);
        edges.is("the rate stays", rows.setting(0), 4);
        edges.promise(2, "Undoable.");
        edges.is("undo of the ratio", rows.undo(), 1);
        edges.is("the ratio", rows.setting(1), 3);
        rows.set(0, 4);
        edges.is("undo of a set to the same value", rows.undo(), 1);
        edges.is("the rate", rows.setting(0), 4);
        edges.promise(2, "Returns the previous value.");
        edges.is("the first rate", new EndVersions().set(0, 1), 3);
        edges.is("the first ratio", new EndVersions().set(1, 2), 3);
        edges.is("the rate", rows.set(0, 9), 4);
        edges.is("the greatest rate", rows.set(0, 1), 9);
        edges.is("the least rate", rows.set(0, 1), 1);
        edges.is("the same rate", rows.set(0, 1), 1);
        rows.set(1, 2);
        edges.is("the least ratio", rows.set(1, 5), 2);
        edges.is("the greatest ratio", rows.set(1, 5), 5);
    }

    private void setRefused() {
        edges.promise(2, "`what`: 0 or 1, as told above");
        edges.refused("what -1", Rows::busy, rows -> rows.set(-1, 3), Edges.ARGUMENT);
        edges.refused("what 2", Rows::busy, rows -> rows.set(2, 3), Edges.ARGUMENT);
        edges.promise(2, "`value`: a value in its range");
        edges.refused("the rate 0", Rows::busy, rows -> rows.set(0, 0), Edges.ARGUMENT);
        edges.refused("the rate 10", Rows::busy, rows -> rows.set(0, 10), Edges.ARGUMENT);
        edges.refused("the rate -1", Rows::busy, rows -> rows.set(0, -1), Edges.ARGUMENT);
        edges.refused("the ratio 1", Rows::busy, rows -> rows.set(1, 1), Edges.ARGUMENT);
        edges.refused("the ratio 6", Rows::busy, rows -> rows.set(1, 6), Edges.ARGUMENT);
        edges.refused("the ratio 9, a rate", Rows::busy, rows -> rows.set(1, 9), Edges.ARGUMENT);
        edges.promise(2, "if what or value is out of range");
        for (int far : Edges.FAR) {
            edges.refused("what " + far, EndVersions::new, rows -> rows.set(far, 3), Edges.ARGUMENT);
            edges.refused("the rate " + far, EndVersions::new, rows -> rows.set(0, far), Edges.ARGUMENT);
            edges.refused("the rate " + (far + 3), EndVersions::new, rows -> rows.set(0, far + 3), Edges.ARGUMENT);
            edges.refused("the ratio " + (far + 3), EndVersions::new, rows -> rows.set(1, far + 3), Edges.ARGUMENT);
            edges.refused("both " + far, EndVersions::new, rows -> rows.set(far, far), Edges.ARGUMENT);
        }
    }

    // ---- promise 3

    private void push() {
        edges.promise(3, "Pushes a value.");
        EndVersions rows = new EndVersions();
        rows.push(0, 5, FRONT);
        edges.row("on an empty row", rows, 1, "5");
        edges.row("the empty row stays", rows, 0, "");
        edges.promise(3, "Undoable.");
        edges.is("undo of the first one", rows.undo(), 0);
        edges.is("versions", rows.count(0), 1);
        edges.promise(3, "`version`: number of a version");
        edges.is("on the first version", rows.push(0, 6, BACK), 1);
        edges.is("on the last version", rows.push(1, 7, BACK), 2);
        edges.is("on one between", rows.push(1, 8, BACK), 3);
        edges.row("on one between", rows, 3, "6 8");
        edges.promise(3, "`front`: whether to the front end, otherwise to the back end");
        rows.push(2, 9, FRONT);
        rows.push(2, 9, BACK);
        edges.row("to the front", rows, 4, "9 6 7");
        edges.row("to the back", rows, 5, "6 7 9");
        edges.is("the act", rows.version(4, 8), 0);
        edges.is("the other act", rows.version(5, 8), 1);
        edges.promise(3, "Returns the number of the new version.");
        edges.is("the first one", new EndVersions().push(0, 1, BACK), 1);
        EndVersions full = Rows.star(99);
        edges.is("the last one", full.push(0, 1, BACK), 99);
        full.clear();
        edges.is("after clear", full.push(0, 1, BACK), 1);
        full.undo();
        full.undo();
        full.drop();
        edges.is("after a drop", full.push(0, 1, BACK), 99);
    }

    private void pushValues() {
        edges.promise(3, "`value`: -999 to 999");
        EndVersions rows = new EndVersions();
        int[] values = {-999, 999, -998, 998, 0, -1, 1};
        for (int i = 0; i < values.length; i++) {
            rows.push(i, values[i], BACK);
        }
        edges.row("all of them", rows, values.length, "-999 999 -998 998 0 -1 1");
        edges.promise(3, "if value is out of range");
        edges.refused("1000", Rows::busy, all -> all.push(4, 1000, FRONT), Edges.ARGUMENT);
        edges.refused("-1000", Rows::busy, all -> all.push(4, -1000, BACK), Edges.ARGUMENT);
        for (int far : new int[] {Integer.MIN_VALUE, Integer.MAX_VALUE, 65536, -65536, 1 << 16 | 5}) {
            edges.refused("" + far, Rows::busy, all -> all.push(4, far, FRONT), Edges.ARGUMENT);
        }
    }

    private void pushOnNoVersion() {
        edges.promise(3, "if there is no such version");
        edges.refused("-1", Rows::busy, rows -> rows.push(-1, 1, FRONT), Edges.BOUNDS);
        edges.refused("7 of 7", Rows::busy, rows -> rows.push(7, 1, FRONT), Edges.BOUNDS);
        edges.refused("1 of 1", EndVersions::new, rows -> rows.push(1, 1, BACK), Edges.BOUNDS);
        edges.refused("100 of 100", Rows::full, rows -> rows.push(100, 1, BACK), Edges.BOUNDS);
        for (int far : Edges.FAR) {
            edges.refused("" + far, Rows::busy, rows -> rows.push(far, 1, FRONT), Edges.BOUNDS);
        }
    }

    private void pushOnForty() {
        edges.promise(3, "if the row has 40 values");
        edges.is("on 39, to the front", Rows.fullRow().push(39, 1, FRONT), 41);
        edges.is("on 39, to the back", Rows.fullRow().push(39, 1, BACK), 41);
        edges.refused("on 40, to the front", Rows::fullRow, rows -> rows.push(40, 1, FRONT), Edges.STATE);
        edges.refused("on 40, to the back", Rows::fullRow, rows -> rows.push(40, 1, BACK), Edges.STATE);
    }

    private void pushOnHundred() {
        edges.promise(3, "or there are 100 versions");
        edges.is("with 99", Rows.star(99).push(98, 1, FRONT), 99);
        edges.refused("with 100, to the front", Rows::full, rows -> rows.push(0, 1, FRONT), Edges.STATE);
        edges.refused("with 100, to the back", Rows::full, rows -> rows.push(99, 1, BACK), Edges.STATE);
        edges.refused("with 100, on 40", Rows::fullRowAndVersions, rows -> rows.push(40, 1, BACK), Edges.STATE);
    }

    // ---- promise 4

    private void pop() {
        edges.promise(4, "Pops a value.");
        EndVersions rows = Rows.fullRow();
        edges.is("of a full row", rows.pop(40, FRONT), 41);
        edges.row("of a full row", rows, 41, Rows.numbers(1, 39));
        edges.promise(4, "Undoable.");
        edges.is("undo", rows.undo(), 3);
        edges.is("versions", rows.count(0), 41);
        edges.promise(4, "`version`: number of a version");
        edges.is("of the last version", rows.pop(40, BACK), 41);
        edges.is("of the first one that has a value", rows.pop(1, BACK), 42);
        edges.row("of the last version", rows, 41, Rows.numbers(0, 38));
        edges.row("of the first one", rows, 42, "");
        edges.promise(4, "`front`: whether at the front end, otherwise at the back end");
        rows.pop(2, FRONT);
        rows.pop(2, BACK);
        edges.row("at the front", rows, 43, "1");
        edges.row("at the back", rows, 44, "0");
        edges.is("the act", rows.version(43, 8), 2);
        edges.is("the other act", rows.version(44, 8), 3);
        edges.promise(4, "Returns the number of the new version.");
        edges.is("the second one", Rows.star(2).pop(1, FRONT), 2);
        edges.is("the last one", Rows.star(99).pop(98, BACK), 99);
    }

    private void popOnNoVersion() {
        edges.promise(4, "if there is no such version");
        edges.refused("-1", Rows::busy, rows -> rows.pop(-1, FRONT), Edges.BOUNDS);
        edges.refused("7 of 7", Rows::busy, rows -> rows.pop(7, FRONT), Edges.BOUNDS);
        edges.refused("1 of 1", EndVersions::new, rows -> rows.pop(1, BACK), Edges.BOUNDS);
        edges.refused("100 of 100", Rows::full, rows -> rows.pop(100, BACK), Edges.BOUNDS);
        for (int far : Edges.FAR) {
            edges.refused("" + far, Rows::busy, rows -> rows.pop(far, BACK), Edges.BOUNDS);
        }
    }

    private void popOnEmptyRow() {
        edges.promise(4, "if the row is empty");
        edges.refused("the version 0, at the front", EndVersions::new, rows -> rows.pop(0, FRONT), Edges.ELEMENT);
        edges.refused("the version 0, at the back", Rows::busy, rows -> rows.pop(0, BACK), Edges.ELEMENT);
        Edges.Maker emptied = () -> Rows.after(1, 3, "f1 f2 x x");
        edges.refused("a row that was popped, at the front", emptied, rows -> rows.pop(4, FRONT), Edges.ELEMENT);
        edges.refused("a row that was popped, at the back", emptied, rows -> rows.pop(4, BACK), Edges.ELEMENT);
        edges.is("a row of one", emptied.make().pop(3, BACK), 5);
    }

    private void popOnHundred() {
        edges.promise(4, "if there are 100 versions");
        edges.is("with 99", Rows.star(99).pop(1, FRONT), 99);
        edges.refused("with 100, at the front", Rows::full, rows -> rows.pop(99, FRONT), Edges.STATE);
        edges.refused("with 100, at the back", Rows::full, rows -> rows.pop(1, BACK), Edges.STATE);
    }

    // ---- promise 5

    private void drop() {
        edges.promise(5, "Drops the version with the greatest number.");
        EndVersions rows = Rows.busy();
        rows.drop();
        edges.throwsOne("the version 6", () -> rows.version(6, 0), Edges.BOUNDS);
        edges.row("the version 5 stays", rows, 5, "5 1");
        edges.is("versions", rows.count(0), 6);
        edges.promise(5, "Undoable.");
        edges.is("undo", rows.undo(), 3);
        edges.row("the version 6", rows, 6, "1");
        edges.is("its value", rows.value(6), 5);
        edges.promise(5, "Returns the versions that are left.");
        edges.is("of two", Rows.star(2).drop(), 1);
        edges.is("of three", Rows.star(3).drop(), 2);
        EndVersions full = Rows.full();
        for (int left = 99; left >= 1; left--) {
            edges.is("of " + (left + 1), full.drop(), left);
        }
        edges.throwsOne("no more", full::drop, Edges.STATE);
        edges.is("undo of the last one", full.undo(), 3);
        edges.row("it is there", full, 1, "1");
    }

    private void dropAlone() {
        edges.promise(5, "if there is the version 0 alone");
        edges.refused("a new object", EndVersions::new, EndVersions::drop, Edges.STATE);
        edges.refused("after a drop", () -> after(Rows.star(2), EndVersions::drop), EndVersions::drop, Edges.STATE);
        edges.refused("after clear", () -> after(Rows.full(), EndVersions::clear), EndVersions::drop, Edges.STATE);
        edges.refused("after undo", () -> after(Rows.star(2), EndVersions::undo), EndVersions::drop, Edges.STATE);
    }

    private static EndVersions after(EndVersions rows, Edges.Asked asked) {
        asked.of(rows);
        return rows;
    }

    // ---- promise 6

    private void clear() {
        edges.promise(6, "Drops all versions except the version 0.");
        EndVersions rows = Rows.busy();
        rows.clear();
        edges.is("versions", rows.count(0), 1);
        edges.throwsOne("the version 1", () -> rows.version(1, 0), Edges.BOUNDS);
        edges.is("the rate stays", rows.setting(0), 1);
        edges.is("the text stays", rows.run(0), 2);
        edges.promise(6, "Undoable.");
        edges.is("undo of the run", rows.undo(), 3);
        edges.is("undo", rows.undo(), 2);
        edges.is("versions", rows.count(0), 7);
        edges.is("a value", rows.value(4), -3);
        EndVersions alone = new EndVersions();
        alone.clear();
        edges.is("undo of a clear of nothing", alone.undo(), 0);
        edges.promise(6, "Returns the versions that are dropped.");
        edges.is("none", new EndVersions().clear(), 0);
        edges.is("one", Rows.star(2).clear(), 1);
        EndVersions full = Rows.full();
        edges.is("all but one", full.clear(), 99);
        edges.is("none again", full.clear(), 0);
    }
}
