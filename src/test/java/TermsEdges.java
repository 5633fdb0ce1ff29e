/** The head 'Terms': versions, settings, undo and exceptions. */
final class TermsEdges {
    private static final boolean FRONT = Rows.FRONT;
    private static final boolean BACK = Rows.BACK;

    private final Edges edges;

    TermsEdges(Edges edges) {
        this.edges = edges;
    }

    void run() {
        constant();
        numbersOfVersions();
        hundredVersions();
        versionZero();
        parents();
        versionsStay();
        fortyValues();
        slidingRow();
        leastAndGreatestValue();
        parts();
        debtOfOne();
        debtOfForty();
        goalOfNothing();
        goalOfAll();
        rates();
        ratios();
        settingsHoldThen();
        undoSavesEachCall();
        undoOfNoChange();
        fourStates();
        textIsNotSaved();
        refusedCallsChangeNothing();
        firstListedException();
    }

    // ---- versions

    private void constant() {
        edges.terms("`NONE = -1`: There is no such thing.");
        edges.is("NONE", EndVersions.NONE, -1);
    }

    private void numbersOfVersions() {
        edges.terms("numbered from 0");
        EndVersions rows = new EndVersions();
        edges.is("the first version is there", rows.version(0, 1), 0);
        edges.throwsOne("the version 1 is not", () -> rows.version(1, 1), Edges.BOUNDS);
        edges.throwsOne("the version -1 is not", () -> rows.version(-1, 1), Edges.BOUNDS);
        edges.is("the next number", rows.push(0, 1, FRONT), 1);
        edges.is("the version 1 is there", rows.version(1, 1), 1);
        edges.throwsOne("the version 2 is not", () -> rows.version(2, 1), Edges.BOUNDS);
        for (int far : Edges.FAR) {
            edges.throwsOne("the version " + far, () -> rows.version(far, 1), Edges.BOUNDS);
        }
    }

    private void hundredVersions() {
        edges.terms("There are at most 100");
        EndVersions rows = Rows.star(99);
        edges.is("99 versions", rows.count(0), 99);
        edges.is("the hundredth", rows.push(98, 1, FRONT), 99);
        edges.is("100 versions", rows.count(0), 100);
        edges.throwsOne("a push of one more", () -> rows.push(0, 1, FRONT), Edges.STATE);
        edges.throwsOne("a pop for one more", () -> rows.pop(99, FRONT), Edges.STATE);
        Rows.write(rows, "f1;");
        edges.is("a run for one more", rows.run(0), 0);
        edges.is("still 100 versions", rows.count(0), 100);
        edges.is("the version 99 is there", rows.version(99, 0), 98);
        edges.throwsOne("the version 100 is not", () -> rows.version(100, 0), Edges.BOUNDS);
    }

    private void versionZero() {
        edges.terms("Version 0 has an empty row and no parent.");
        EndVersions rows = Rows.busy();
        edges.is("its size", rows.version(0, 1), 0);
        edges.is("its parent", rows.version(0, 0), EndVersions.NONE);
        edges.throwsOne("its place 0", () -> rows.at(0, 0), Edges.BOUNDS);
        rows.clear();
        edges.is("its size after clear", rows.version(0, 1), 0);
        rows.undo();
        edges.is("its parent after undo", rows.version(0, 0), EndVersions.NONE);
    }

    private void parents() {
        edges.terms("Each other version was made by an act on another version, its parent.");
        EndVersions rows = Rows.busy();
        int[] due = {0, 1, 2, 2, 1, 5};
        for (int version = 1; version <= 6; version++) {
            edges.is("the parent of " + version, rows.version(version, 0), due[version - 1]);
        }
        EndVersions full = Rows.star(99);
        full.push(98, 1, FRONT);
        edges.is("the parent of 98", full.version(98, 0), 0);
        edges.is("the parent of 99", full.version(99, 0), 98);
    }

    private void versionsStay() {
        edges.terms("Versions do not change.");
        EndVersions rows = Rows.after(1, 2, "b1 f2 f3 f4 f5");
        String due = "5 4 1 5 2 1 0";
        edges.facts("before", rows, 5, due);
        rows.push(5, 6, FRONT);
        rows.push(5, 7, BACK);
        rows.pop(5, FRONT);
        rows.pop(5, BACK);
        rows.set(0, 9);
        rows.set(1, 5);
        Rows.write(rows, "x;x;x;x;x;f1;b2;");
        edges.is("a run from it", rows.run(5), 7);
        rows.leastRate(5);
        edges.facts("after acts on it", rows, 5, due);
        edges.row("after acts on it", rows, 5, "5 4 3 2 1");
        edges.is("its value", rows.value(5), 5);
        edges.is("its depth", rows.version(5, 9), 5);
        edges.is("its parent", rows.version(5, 0), 4);
        edges.is("its act", rows.version(5, 8), 0);
        edges.is("the version 0 is still empty", rows.version(0, 1), 0);
    }

    // ---- rows

    private void fortyValues() {
        edges.terms("A version has a row of at most 40 values");
        EndVersions back = new EndVersions();
        int last = Rows.pushMany(back, 0, 40, BACK);
        edges.row("40 pushed to the back", back, last, Rows.numbers(0, 39));
        edges.throwsOne("one more to the front", () -> back.push(last, 1, FRONT), Edges.STATE);
        edges.throwsOne("one more to the back", () -> back.push(last, 1, BACK), Edges.STATE);
        EndVersions front = new EndVersions();
        Rows.pushMany(front, 0, 40, FRONT);
        edges.row("40 pushed to the front", front, last, Rows.numbers(39, 0));
        edges.throwsOne("one more to the front", () -> front.push(last, 1, FRONT), Edges.STATE);
        edges.is("a pop of 40", front.pop(last, BACK), 41);
        edges.row("39 are left", front, 41, Rows.numbers(39, 1));
        edges.is("a push on 39", front.push(41, 77, FRONT), 42);
        edges.row("40 again", front, 42, "77 " + Rows.numbers(39, 1));
        edges.is("their number", front.version(42, 1), 40);
    }

    private void slidingRow() {
        edges.terms("A version has a row of at most 40 values");
        EndVersions rows = Rows.fullRow();
        int last = 40;
        for (int i = 0; i < 29; i++) {
            last = rows.push(rows.pop(last, FRONT), 40 + i, BACK);
        }
        edges.row("a full row, popped in front and pushed to the back", rows, last, Rows.numbers(29, 68));
        EndVersions turned = Rows.fullRow();
        last = 40;
        for (int i = 1; i < 30; i++) {
            last = turned.push(turned.pop(last, BACK), -i, FRONT);
        }
        edges.row("a full row, popped at the back and pushed to the front", turned, last, Rows.numbers(-29, 10));
        edges.row("the row that it came from", turned, 40, Rows.numbers(0, 39));
    }

    private void leastAndGreatestValue() {
        edges.terms("-999 to 999");
        EndVersions rows = Rows.withText("f-999;b999;");
        int last = Rows.act(rows, 0, "f-999 b999 f999 b-999");
        edges.row("the last at each end", rows, last, "999 -999 999 -999");
        rows.run(0);
        edges.row("the last at each end, from a text", rows, 6, "-999 999");
        edges.throwsOne("1000", () -> rows.push(0, 1000, FRONT), Edges.ARGUMENT);
        edges.throwsOne("-1000", () -> rows.push(0, -1000, BACK), Edges.ARGUMENT);
    }

    private void parts() {
        edges.terms("it is divided into a front part and a back part, told by their sizes");
        EndVersions rows = Rows.fullRow();
        for (int version = 0; version <= 40; version++) {
            edges.is("the parts of " + version, rows.version(version, 2) + rows.version(version, 3), version);
        }
        edges.facts("the empty row", rows, 0, "0 0 0 0 -1 0 0");
        edges.is("one to the back", rows.version(1, 3), 1);
        edges.is("none in front", rows.version(1, 2), 0);
        rows.push(0, 1, FRONT);
        edges.is("one to the front", rows.version(41, 2), 1);
        edges.is("none in the back", rows.version(41, 3), 0);
    }

    private void debtOfOne() {
        edges.terms("with a debt of steps, 1 or more, and a goal");
        EndVersions rows = Rows.after(1, 3, "f1 f2 f3 f4");
        edges.facts("a debt of 2", rows, 2, "2 2 0 2 1 1 0");
        edges.facts("a debt of 1", rows, 3, "3 3 0 1 2 2 0");
        edges.facts("no debt and no goal", rows, 4, "4 3 1 0 -1 2 0");
        edges.is("two have a rebuild in progress", rows.count(6), 2);
    }

    // The ratio 5 lets 31 stand beside 8; the ratio 2 lets 17.
    private void debtOfForty() {
        edges.terms("with a debt of steps, 1 or more, and a goal");
        EndVersions rows = new EndVersions();
        rows.set(1, 5);
        int last = Rows.grow(rows, 31, 8);
        edges.facts("no rebuild with the ratio 5", rows, last, "39 31 8 0 -1 1 0");
        rows.set(1, 2);
        edges.facts("the rebuild of a full row", rows, rows.push(last, 0, FRONT), "40 32 8 40 20 1 0");
        edges.facts("paid by a pop", rows, rows.pop(40, BACK), "39 32 7 37 20 4 0");
    }

    private void goalOfNothing() {
        edges.terms("which is the size that the front part gets by it");
        EndVersions rows = Rows.after(1, 2, "b1 f2 f3 f4 f5 x x x x");
        edges.facts("a goal of 0 is not NONE", rows, 7, "3 2 1 3 0 2 0");
        edges.facts("a debt of 1", rows, 9, "1 0 1 1 0 2 0");
        edges.facts("the front part gets nothing", rows, rows.push(9, 6, BACK), "2 0 2 2 1 2 0");
        edges.facts("the front part gets what was pushed to it", rows, rows.push(9, 6, FRONT), "2 1 1 0 -1 2 0");
    }

    private void goalOfAll() {
        edges.terms("which is the size that the front part gets by it");
        EndVersions rows = new EndVersions();
        rows.set(0, 2);
        rows.set(1, 2);
        int last = Rows.popMany(rows, Rows.grow(rows, 3, 8), 5, BACK);
        edges.facts("a goal as great as the row but one", rows, last, "6 3 3 1 5 3 0");
        last = rows.pop(last, BACK);
        edges.facts("the front part gets all, which is too unequal", rows, last, "5 5 0 5 2 2 0");
        edges.row("the values stay", rows, last, "6 4 2 1 3");
    }

    // ---- settings

    private void rates() {
        edges.terms("0 the rate (3; 1 to 9)");
        EndVersions rows = new EndVersions();
        edges.is("its first value", rows.setting(0), 3);
        for (int rate = 1; rate <= 9; rate++) {
            rows.set(0, rate);
            edges.is("the rate " + rate, rows.setting(0), rate);
        }
        edges.throwsOne("the rate 0", () -> rows.set(0, 0), Edges.ARGUMENT);
        edges.throwsOne("the rate 10", () -> rows.set(0, 10), Edges.ARGUMENT);
        edges.is("the rate stays", rows.setting(0), 9);
    }

    private void ratios() {
        edges.terms("1 the ratio (3; 2 to 5)");
        EndVersions rows = new EndVersions();
        edges.is("its first value", rows.setting(1), 3);
        for (int ratio = 2; ratio <= 5; ratio++) {
            rows.set(1, ratio);
            edges.is("the ratio " + ratio, rows.setting(1), ratio);
        }
        edges.throwsOne("the ratio 1", () -> rows.set(1, 1), Edges.ARGUMENT);
        edges.throwsOne("the ratio 6", () -> rows.set(1, 6), Edges.ARGUMENT);
        edges.is("the ratio stays", rows.setting(1), 5);
    }

    private void settingsHoldThen() {
        edges.terms("They hold for the acts that are done then; versions that there are stay.");
        EndVersions rows = new EndVersions();
        rows.set(1, 5);
        int last = Rows.grow(rows, 6, 1);
        rows.set(1, 2);
        rows.set(0, 4);
        edges.facts("no rebuild begins without an act", rows, last, "7 6 1 0 -1 1 0");
        edges.facts("one begins with the next act", rows, rows.push(last, 8, BACK), "8 6 2 8 4 1 0");
        edges.facts("the rate of now is paid", rows, rows.push(8, 9, BACK), "9 6 3 4 4 5 0");
        rows.set(1, 5);
        rows.set(0, 1);
        edges.facts("what was paid stays", rows, 9, "9 6 3 4 4 5 0");
        edges.facts("a rebuild goes on with the rate of now", rows, rows.push(9, 0, BACK), "10 6 4 3 4 2 0");
        rows.set(0, 9);
        rows.undo();
        edges.facts("after undo the rate of before", rows, rows.push(9, 0, BACK), "10 6 4 3 4 2 0");
    }

    // ---- undo

    private static final Edges.Asked[] UNDOABLE = {
        rows -> rows.set(0, 9), rows -> rows.set(1, 5), rows -> rows.push(4, 8, FRONT), rows -> rows.push(4, 8, BACK),
        rows -> rows.pop(4, FRONT), rows -> rows.pop(4, BACK), EndVersions::drop, EndVersions::clear,
        rows -> rows.run(4)};

    private void undoSavesEachCall() {
        edges.terms("whose description says \"undoable\" saves the state from before the call");
        for (int i = 0; i < UNDOABLE.length; i++) {
            EndVersions rows = Rows.busy();
            rows.undo();
            UNDOABLE[i].of(rows);
            edges.is("undo of the call " + i, rows.undo(), 3);
            EndVersions due = Rows.busy();
            due.undo();
            edges.is("the state after undo of the call " + i, Rows.portrait(rows), Rows.portrait(due));
        }
    }

    private void undoOfNoChange() {
        edges.terms("even if the call changes nothing");
        EndVersions rows = new EndVersions();
        long before = rows.digest();
        edges.is("set to the value that it has", rows.set(0, 3), 3);
        edges.is("clear of nothing", rows.clear(), 0);
        edges.is("a run of an empty text", rows.run(0), 0);
        Rows.write(rows, "x;");
        edges.is("a run of no act that is possible", rows.run(0), 0);
        for (int left = 3; left >= 0; left--) {
            edges.is("undo", rows.undo(), left);
        }
        rows.clearText();
        edges.is("nothing has changed", rows.digest(), before);
        edges.throwsOne("undo of nothing", rows::undo, Edges.STATE);
    }

    private void fourStates() {
        edges.terms("at most 4 states are saved, and the oldest is dropped first");
        EndVersions four = Rows.after(1, 2, "f1 f2");
        for (int left = 3; left >= 0; left--) {
            edges.is("undo of four", four.undo(), left);
        }
        edges.is("the first state is there", four.digest(), new EndVersions().digest());
        EndVersions five = Rows.after(1, 2, "f1 f2 f3");
        for (int left = 3; left >= 0; left--) {
            edges.is("undo of five", five.undo(), left);
        }
        edges.throwsOne("a fifth undo", five::undo, Edges.STATE);
        edges.is("the first call stays", five.setting(0), 1);
        edges.is("the second call is undone", five.setting(1), 3);
        EndVersions many = Rows.star(50);
        for (int left = 3; left >= 0; left--) {
            edges.is("undo of many", many.undo(), left);
            edges.is("the row that was pushed last", many.value(many.count(0) - 1), 45 + left);
        }
        edges.throwsOne("a fifth undo of many", many::undo, Edges.STATE);
    }

    private void textIsNotSaved() {
        edges.terms("The saved state contains everything except the text.");
        EndVersions rows = Rows.withText("f7;");
        rows.set(1, 5);
        rows.append('b');
        Rows.act(rows, 0, "f-5");
        Rows.write(rows, "8;");
        edges.is("undo", rows.undo(), 1);
        edges.is("the text that was appended after the call stays", rows.run(0), 2);
        edges.row("it is the text", rows, 2, "7 8");
        rows.clear();
        rows.clearText();
        edges.is("undo after clearText", rows.undo(), 2);
        edges.is("the text stays empty", rows.clearText(), 0);
        edges.row("the rows are there", rows, 2, "7 8");
        edges.is("their values too", rows.value(1), 7);
        rows.undo();
        rows.undo();
        edges.is("the settings too", rows.setting(1), 3);
    }

    // ---- exceptions

    private void refusedCallsChangeNothing() {
        edges.terms("A call that throws an exception changes nothing.");
        Edges.Asked[] calls = {rows -> rows.set(0, 0), rows -> rows.set(1, 6), rows -> rows.set(2, 3),
            rows -> rows.push(100, 1, FRONT), rows -> rows.push(1, 1000, BACK), rows -> rows.pop(-1, FRONT),
            rows -> rows.version(100, 0), rows -> rows.version(0, 10), rows -> rows.value(0), rows -> rows.value(100),
            rows -> rows.at(0, 0), rows -> rows.steps(1, 1), rows -> rows.count(8), rows -> rows.setting(2),
            rows -> rows.common(0, 100), rows -> rows.same(-1, 0), rows -> rows.firstLike(100),
            rows -> rows.worst(-1), rows -> rows.mean(100), rows -> rows.append(128), rows -> rows.append(-1),
            rows -> rows.run(100), rows -> rows.stalls(100, 1), rows -> rows.stalls(0, 10),
            rows -> rows.worstWith(-1, 1), rows -> rows.worstWith(0, 0), rows -> rows.leastRate(100)};
        for (int i = 0; i < calls.length; i++) {
            for (Edges.Maker maker : new Edges.Maker[] {Rows::busy, Rows::full, EndVersions::new}) {
                EndVersions rows = maker.make();
                edges.is("the call " + i, Checks.outcome(refusal(calls[i], rows)).startsWith("throws "), true);
                edges.is("after the call " + i, Rows.portrait(rows), Rows.portrait(maker.make()));
            }
        }
        edges.refused("a pop of an empty row", Rows::busy, rows -> rows.pop(0, FRONT), Edges.ELEMENT);
        edges.refused("a push on 40", Rows::fullRow, rows -> rows.push(40, 1, FRONT), Edges.STATE);
        edges.refused("a push on 100 versions", Rows::full, rows -> rows.push(9, 1, FRONT), Edges.STATE);
        edges.refused("a pop at 100 versions", Rows::full, rows -> rows.pop(9, BACK), Edges.STATE);
        edges.refused("a drop of the version 0", EndVersions::new, EndVersions::drop, Edges.STATE);
        edges.refused("an undo of nothing", EndVersions::new, EndVersions::undo, Edges.STATE);
        edges.refused("a question with a fault", Rows::busyWithFault, rows -> rows.leastRate(1), Edges.STATE);
        edges.refused("a byte too many", () -> Rows.withText("f-99;".repeat(20)), rows -> rows.append('x'),
            Edges.STATE);
    }

    private static Checks.Call refusal(Edges.Asked asked, EndVersions rows) {
        return () -> asked.of(rows);
    }

    private void firstListedException() {
        edges.terms("If several exceptions apply, the one that is listed first is thrown.");
        edges.refused("push: version, value, versions", Rows::full, rows -> rows.push(100, 1000, FRONT), Edges.BOUNDS);
        edges.refused("push: version, versions", Rows::full, rows -> rows.push(-1, 999, BACK), Edges.BOUNDS);
        edges.refused("push: version, value", Rows::busy, rows -> rows.push(7, -1000, BACK), Edges.BOUNDS);
        edges.refused("push: value, versions", Rows::full, rows -> rows.push(0, 1000, FRONT), Edges.ARGUMENT);
        edges.refused("push: value, row", Rows::fullRow, rows -> rows.push(40, -1000, BACK), Edges.ARGUMENT);
        edges.refused("pop: version, versions", Rows::full, rows -> rows.pop(100, FRONT), Edges.BOUNDS);
        edges.refused("pop: row, versions", Rows::full, rows -> rows.pop(0, BACK), Edges.ELEMENT);
        edges.refused("version: version, what", Rows::busy, rows -> rows.version(7, 10), Edges.BOUNDS);
        edges.refused("append: byte, text", () -> Rows.withText("x;".repeat(50)), rows -> rows.append(128),
            Edges.ARGUMENT);
        edges.refused("stalls: version, rate, text", Rows::busyWithFault, rows -> rows.stalls(7, 0), Edges.BOUNDS);
        edges.refused("stalls: version, rate", Rows::busy, rows -> rows.stalls(-1, 10), Edges.BOUNDS);
        edges.refused("stalls: version, text", Rows::busyWithFault, rows -> rows.stalls(7, 9), Edges.BOUNDS);
        edges.refused("stalls: rate, text", Rows::busyWithFault, rows -> rows.stalls(6, 10), Edges.ARGUMENT);
        edges.refused("worstWith: version, rate, text", Rows::busyWithFault, rows -> rows.worstWith(7, 10),
            Edges.BOUNDS);
        edges.refused("worstWith: version, rate", Rows::busy, rows -> rows.worstWith(-1, 0), Edges.BOUNDS);
        edges.refused("worstWith: version, text", Rows::busyWithFault, rows -> rows.worstWith(7, 1), Edges.BOUNDS);
        edges.refused("worstWith: rate, text", Rows::busyWithFault, rows -> rows.worstWith(6, 0), Edges.ARGUMENT);
        edges.refused("leastRate: version, text", Rows::busyWithFault, rows -> rows.leastRate(7), Edges.BOUNDS);
        edges.refused("run: the exception, not the fault", Rows::busyWithFault, rows -> rows.run(7), Edges.BOUNDS);
    }
}
