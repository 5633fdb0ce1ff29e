/** The promises 18 to 23: append, clearText, run, stalls, worstWith and leastRate. */
final class QuestionEdges {
    private static final boolean FRONT = Rows.FRONT;

    private final Edges edges;

    QuestionEdges(Edges edges) {
        this.edges = edges;
    }

    void run() {
        append();
        appendRefused();
        clearText();
        run20();
        runWithFault();
        runRefused();
        stalls();
        ratioThatIsSet();
        stallsUpTo();
        stallsRefused();
        worstWith();
        worstWithRefused();
        leastRate();
        leastRateOfNoStall();
        leastRateRefused();
        questionsChangeNothing();
    }

    // ---- promise 18

    private void append() {
        edges.promise(18, "Appends a byte to the text.");
        EndVersions rows = new EndVersions();
        Rows.write(rows, "f1;b2;");
        rows.run(0);
        edges.row("in their order", rows, 2, "1 2");
        edges.promise(18, "`value`: the byte, 0 to 127");
        for (int value = 0; value <= 127; value++) {
            edges.is("the byte " + value, new EndVersions().append(value), 1);
        }
        edges.promise(18, "Returns the new length of the text.");
        EndVersions full = new EndVersions();
        for (int length = 1; length <= 100; length++) {
            edges.is("the length", full.append(127), length);
        }
        edges.throwsOne("no more", () -> full.append(127), Edges.STATE);
        full.clearText();
        edges.is("after clearText", full.append(0), 1);
        edges.throwsOne("it is not undoable", full::undo, Edges.STATE);
    }

    private void appendRefused() {
        edges.promise(18, "if value is out of range");
        edges.refused("-1", Rows::busy, rows -> rows.append(-1), Edges.ARGUMENT);
        edges.refused("128", Rows::busy, rows -> rows.append(128), Edges.ARGUMENT);
        edges.refused("256 more than a byte", Rows::busy, rows -> rows.append(256 + ';'), Edges.ARGUMENT);
        edges.refused("256 less than a byte", Rows::busy, rows -> rows.append(';' - 256), Edges.ARGUMENT);
        for (int far : Edges.FAR) {
            edges.refused("" + far, Rows::busy, rows -> rows.append(far), Edges.ARGUMENT);
        }
        edges.promise(18, "if the text has 100 bytes");
        Edges.Maker full = () -> Rows.withText("f-99;".repeat(20));
        edges.is("99 bytes", Rows.withText("x;".repeat(49) + "x").append(';'), 100);
        edges.refused("100 bytes", full, rows -> rows.append(';'), Edges.STATE);
        edges.refused("100 bytes and the byte 0", full, rows -> rows.append(0), Edges.STATE);
    }

    // ---- promise 19

    private void clearText() {
        edges.promise(19, "Empties the text.");
        EndVersions rows = Rows.withText("f1;");
        rows.clearText();
        edges.is("no act is left", rows.run(0), 0);
        Rows.write(rows, "b-2;");
        edges.is("the new text is run", rows.run(0), 1);
        edges.row("the new text", rows, 1, "-2");
        rows.undo();
        rows.undo();
        edges.throwsOne("it is not undoable", rows::undo, Edges.STATE);
        edges.promise(19, "Returns the length that it had.");
        edges.is("none", new EndVersions().clearText(), 0);
        edges.is("one", Rows.withText("q").clearText(), 1);
        EndVersions full = Rows.withText("\0".repeat(100));
        edges.is("all", full.clearText(), 100);
        edges.is("none again", full.clearText(), 0);
    }

    // ---- promise 20

    private void run20() {
        edges.promise(20, "Runs the text from a version.");
        EndVersions rows = Rows.withText("f1;f2;y;");
        edges.is("three acts", rows.run(0), 3);
        edges.row("the last one", rows, 3, "2");
        edges.promise(20, "The text stays as it is.");
        edges.is("three acts more", rows.run(3), 3);
        edges.is("its length", rows.clearText(), 8);
        edges.promise(20, "Undoable (one saved state, also if no act is done), if there is no syntax error.");
        edges.is("a run of nothing", rows.run(0), 0);
        Rows.write(rows, "x;");
        edges.is("a run of no act that is possible", rows.run(0), 0);
        edges.is("undo", rows.undo(), 3);
        edges.is("undo once more", rows.undo(), 2);
        edges.is("they have changed nothing", rows.count(0), 7);
        edges.is("undo of three acts", rows.undo(), 1);
        edges.is("all three are undone", rows.count(0), 4);
        edges.is("undo of the first three acts", rows.undo(), 0);
        edges.is("the version 0 is left", rows.count(0), 1);
        edges.promise(20, "Returns the number of acts that are done");
        edges.is("none", new EndVersions().run(0), 0);
        edges.is("one", Rows.withText("f1;").run(0), 1);
        EndVersions most = Rows.withText("x;".repeat(50));
        int last = Rows.pushMany(most, 0, 40, FRONT);
        edges.is("40 of 50", most.run(last), 40);
    }

    private void runWithFault() {
        edges.promise(20, "-10 minus the syntax error position if there is a syntax error (then nothing changes)");
        edges.is("the position 0", Rows.withText("q").run(0), -10);
        edges.is("the position 1", Rows.withText("f").run(0), -11);
        edges.is("the position 100", Rows.withText("x;".repeat(49) + "f9").run(0), -110);
        edges.is("behind acts that are possible", Rows.withText("f1;f2;q").run(0), -16);
        edges.is("behind one that is not", Rows.withText("x;q").run(0), -12);
        edges.is("with 100 versions", Rows.fullWithFault().run(0), -10);
        edges.changesNothing("a fault", Rows::busyWithFault, rows -> rows.run(4));
        edges.changesNothing("a fault with 100 versions", Rows::fullWithFault, rows -> rows.run(4));
        edges.changesNothing("a fault without a saved state", () -> Rows.withText("f1;q"), rows -> rows.run(0));
    }

    private void runRefused() {
        edges.promise(20, "`version`: number of a version");
        EndVersions rows = Rows.star(9);
        Rows.write(rows, "x;");
        edges.is("the last one", rows.run(8), 1);
        edges.promise(20, "if there is no such version");
        edges.refused("-1", Rows::busy, all -> all.run(-1), Edges.BOUNDS);
        edges.refused("7 of 7", Rows::busy, all -> all.run(7), Edges.BOUNDS);
        edges.refused("100 of 100", Rows::full, all -> all.run(100), Edges.BOUNDS);
        edges.refused("1 of 1, an empty text", EndVersions::new, all -> all.run(1), Edges.BOUNDS);
        for (int far : Edges.FAR) {
            edges.refused("" + far, Rows::busy, all -> all.run(far), Edges.BOUNDS);
        }
    }

    // ---- promise 21

    /**
     * An object whose last version has so many values in front beside two, without a rebuild. A pop at the back
     * begins one with a debt of front + 1; the next pop pays what the rate tells; the third one stalls if one is left.
     */
    private static EndVersions besideTwo(int front) {
        EndVersions rows = Rows.withText("y;y;y;");
        rows.set(1, 5);
        Rows.grow(rows, front, 2);
        return rows;
    }

    private void stalls() {
        edges.promise(21, "Tells how many acts would stall if the text was run from a version with a rate");
        EndVersions rows = besideTwo(8);
        for (int rate = 1; rate <= 9; rate++) {
            edges.is("a debt of 9 at the rate " + rate, rows.stalls(10, rate), rate < 9 ? 1 : 0);
        }
        edges.is("the rate that is set is another one", rows.setting(0), 3);
        edges.promise(21, "Returns their number.");
        edges.is("none of no act", new EndVersions().stalls(0, 1), 0);
        EndVersions many = Rows.withText("f1;f2;y;x;".repeat(10));
        edges.is("ten of forty", many.stalls(0, 9), 10);
        EndVersions one = Rows.withText("f1;f2;x;y;");
        edges.is("extra steps of 1", one.stalls(0, 1), 1);
        EndVersions none = Rows.withText("f1;y;b1;x;");
        edges.is("extra steps of 0", none.stalls(0, 1), 0);
    }

    // With the ratio 2 a rebuild begins at four beside one; with the others not until all four stand alone.
    private void ratioThatIsSet() {
        edges.terms("They hold for the acts that are done then");
        EndVersions rows = Rows.withText("b1;f2;f3;f4;f5;y;y;");
        for (int ratio = 2; ratio <= 5; ratio++) {
            rows.set(1, ratio);
            edges.is("stalls with the ratio " + ratio, rows.stalls(0, 9), ratio == 2 ? 0 : 1);
            edges.is("the cost with the ratio " + ratio, rows.worstWith(0, 9), ratio == 2 ? 6 : 5);
            edges.is("the least rate with the ratio " + ratio, rows.leastRate(0), ratio == 2 ? 5 : EndVersions.NONE);
        }
    }

    private void stallsUpTo() {
        edges.promise(21, "up to the first act that would not be possible, also because of 100 versions");
        EndVersions rows = besideTwo(8);
        for (int i = 0; i < 86; i++) {
            rows.push(0, 1, FRONT);
        }
        int[] stalls = {1, 0, 0, 0};
        int[] costs = {9, 9, 1, 0};
        int[] rates = {9, 1, 1, 1};
        for (int i = 0; i < 4; i++) {
            edges.is("stalls with " + (97 + i) + " versions", rows.stalls(10, 8), stalls[i]);
            edges.is("the cost with " + (97 + i) + " versions", rows.worstWith(10, 8), costs[i]);
            edges.is("the least rate with " + (97 + i) + " versions", rows.leastRate(10), rates[i]);
            if (i < 3) {
                rows.push(0, 1, FRONT);
            }
        }
        EndVersions empty = Rows.withText("f1;f2;x;x;x;f1;f2;y;");
        edges.is("stalls up to a pop on an empty row", empty.stalls(0, 1), 0);
        edges.is("the least rate up to a pop on an empty row", empty.leastRate(0), 1);
        edges.is("the cost up to a pop on an empty row", empty.worstWith(0, 1), 2);
        EndVersions forty = Rows.fullRow();
        forty.set(1, 2);
        Rows.write(forty, "f1;" + "x;".repeat(48));
        edges.is("stalls up to a push on 40 values", forty.stalls(40, 1), 0);
        edges.is("the cost up to a push on 40 values", forty.worstWith(40, 9), 0);
        edges.is("the least rate up to a push on 40 values", forty.leastRate(40), 1);
        edges.is("stalls from 39 values", forty.stalls(39, 1) > 0, true);
    }

    private void stallsRefused() {
        edges.promise(21, "`version`: number of a version");
        edges.is("the last one", besideTwo(8).stalls(10, 8), 1);
        edges.promise(21, "`rate`: 1 to 9");
        edges.is("the rate 1", Rows.withText("f1;").stalls(0, 1), 0);
        edges.is("the rate 9", Rows.withText("f1;").stalls(0, 9), 0);
        edges.promise(21, "if there is no such version");
        edges.refused("-1", Rows::busy, rows -> rows.stalls(-1, 1), Edges.BOUNDS);
        edges.refused("7 of 7", Rows::busy, rows -> rows.stalls(7, 9), Edges.BOUNDS);
        edges.refused("100 of 100", Rows::full, rows -> rows.stalls(100, 9), Edges.BOUNDS);
        edges.promise(21, "if rate is out of range");
        edges.refused("the rate 0", Rows::busy, rows -> rows.stalls(6, 0), Edges.ARGUMENT);
        edges.refused("the rate 10", Rows::busy, rows -> rows.stalls(6, 10), Edges.ARGUMENT);
        edges.refused("the rate 0 without a text", EndVersions::new, rows -> rows.stalls(0, 0), Edges.ARGUMENT);
        for (int far : Edges.FAR) {
            edges.refused("the version " + far, Rows::busy, rows -> rows.stalls(far, 1), Edges.BOUNDS);
            edges.refused("the rate " + far, Rows::busy, rows -> rows.stalls(6, far), Edges.ARGUMENT);
        }
        edges.promise(21, "if the text has a syntax error");
        edges.refused("at the first byte", Rows::fullWithFault, rows -> rows.stalls(0, 1), Edges.STATE);
        edges.refused("at the end", Rows::busyWithFault, rows -> rows.stalls(6, 9), Edges.STATE);
    }

    // ---- promise 22

    private void worstWith() {
        edges.promise(22, "Tells the greatest cost of an act if the text was run from a version with a rate.");
        EndVersions rows = besideTwo(8);
        int[] due = {9, 8, 7, 6, 6, 7, 8, 9, 10};
        for (int rate = 1; rate <= 9; rate++) {
            edges.is("a debt of 9 at the rate " + rate, rows.worstWith(10, rate), due[rate - 1]);
        }
        edges.promise(22, "Returns the greatest cost; 0 if no act is done.");
        edges.is("an empty text", new EndVersions().worstWith(0, 1), 0);
        edges.is("no act that is possible", Rows.withText("x;").worstWith(0, 1), 0);
        edges.is("one act", Rows.withText("f1;x;y;").worstWith(0, 9), 1);
        EndVersions full = Rows.full();
        Rows.write(full, "f1;");
        edges.is("with 100 versions", full.worstWith(99, 9), 0);
        EndVersions stalled = Rows.after(3, 3, "f1 f2 y");
        edges.is("the cost of the version itself does not count", stalled.worstWith(3, 9), 0);
        Rows.write(stalled, "b1;");
        edges.is("that of its next act does", stalled.worstWith(3, 9), 1);
    }

    private void worstWithRefused() {
        edges.promise(22, "`version`: number of a version");
        edges.is("the last one", besideTwo(8).worstWith(10, 9), 10);
        edges.promise(22, "`rate`: 1 to 9");
        edges.is("the rate 1", Rows.withText("f1;f2;f3;").worstWith(0, 1), 2);
        edges.is("the rate 9", Rows.withText("f1;f2;f3;").worstWith(0, 9), 3);
        edges.promise(22, "if there is no such version");
        edges.refused("-1", Rows::busy, rows -> rows.worstWith(-1, 1), Edges.BOUNDS);
        edges.refused("7 of 7", Rows::busy, rows -> rows.worstWith(7, 9), Edges.BOUNDS);
        edges.refused("100 of 100", Rows::full, rows -> rows.worstWith(100, 9), Edges.BOUNDS);
        edges.promise(22, "if rate is out of range");
        edges.refused("the rate 0", Rows::busy, rows -> rows.worstWith(6, 0), Edges.ARGUMENT);
        edges.refused("the rate 10", Rows::busy, rows -> rows.worstWith(6, 10), Edges.ARGUMENT);
        edges.refused("the rate 10 without a text", EndVersions::new, rows -> rows.worstWith(0, 10), Edges.ARGUMENT);
        for (int far : Edges.FAR) {
            edges.refused("the version " + far, Rows::busy, rows -> rows.worstWith(far, 1), Edges.BOUNDS);
            edges.refused("the rate " + far, Rows::busy, rows -> rows.worstWith(6, far), Edges.ARGUMENT);
        }
        edges.promise(22, "if the text has a syntax error");
        edges.refused("at the first byte", Rows::fullWithFault, rows -> rows.worstWith(0, 1), Edges.STATE);
        edges.refused("at the end", Rows::busyWithFault, rows -> rows.worstWith(6, 9), Edges.STATE);
    }

    // ---- promise 23

    private void leastRate() {
        edges.promise(23, "Finds the least rate with which no act would stall if the text was run from a version.");
        for (int front = 7; front <= 11; front++) {
            int due = front + 1 <= 9 ? front + 1 : EndVersions.NONE;
            edges.is("a debt of " + (front + 1), besideTwo(front).leastRate(front + 2), due);
        }
        EndVersions two = Rows.withText("f1;f2;f3;y;");
        edges.is("a debt of 2", two.leastRate(0), 2);
        edges.promise(23, "Returns the rate, 1 to 9; NONE if acts would stall with each of them.");
        EndVersions one = Rows.withText("f1;f2;f3;f4;y;");
        edges.is("a debt of 2 that two acts pay", one.leastRate(0), 1);
        EndVersions none = Rows.withText("f1;f2;y;");
        edges.is("a debt of 2 that no act pays", none.leastRate(0), EndVersions.NONE);
        EndVersions nine = besideTwo(8);
        edges.is("the greatest rate", nine.leastRate(10), 9);
        nine.set(0, 1);
        edges.is("the rate that is set does not matter", nine.leastRate(10), 9);
    }

    private void leastRateOfNoStall() {
        edges.promise(23, "Returns the rate, 1 to 9");
        edges.is("an empty text", new EndVersions().leastRate(0), 1);
        edges.is("no act that is possible", Rows.withText("y;").leastRate(0), 1);
        edges.is("extra steps of 0", Rows.withText("f1;y;b1;x;").leastRate(0), 1);
        EndVersions stalled = Rows.after(3, 3, "f1 f2 y");
        edges.is("a stall of the version itself does not count", stalled.leastRate(3), 1);
        EndVersions full = Rows.full();
        Rows.write(full, "f1;f2;y;");
        edges.is("with 100 versions", full.leastRate(0), 1);
        full.drop();
        full.drop();
        edges.is("with 98 versions", full.leastRate(0), 1);
        full.drop();
        edges.is("with 97 versions", full.leastRate(0), EndVersions.NONE);
    }

    private void leastRateRefused() {
        edges.promise(23, "`version`: number of a version");
        edges.is("the last one", besideTwo(7).leastRate(9), 8);
        edges.promise(23, "if there is no such version");
        edges.refused("-1", Rows::busy, rows -> rows.leastRate(-1), Edges.BOUNDS);
        edges.refused("7 of 7", Rows::busy, rows -> rows.leastRate(7), Edges.BOUNDS);
        edges.refused("100 of 100", Rows::full, rows -> rows.leastRate(100), Edges.BOUNDS);
        edges.refused("1 of 1, an empty text", EndVersions::new, rows -> rows.leastRate(1), Edges.BOUNDS);
        for (int far : Edges.FAR) {
            edges.refused("the version " + far, Rows::busy, rows -> rows.leastRate(far), Edges.BOUNDS);
        }
        edges.promise(23, "if the text has a syntax error");
        edges.refused("at the first byte", Rows::fullWithFault, rows -> rows.leastRate(0), Edges.STATE);
        edges.refused("at the end", Rows::busyWithFault, rows -> rows.leastRate(6), Edges.STATE);
    }

    private void questionsChangeNothing() {
        edges.terms("whose description says \"undoable\" saves the state");
        for (Edges.Maker maker : new Edges.Maker[] {Rows::busy, () -> besideTwo(8), EndVersions::new, Rows::full}) {
            edges.changesNothing("stalls", maker, rows -> rows.stalls(rows.count(0) - 1, 1));
            edges.changesNothing("worstWith", maker, rows -> rows.worstWith(rows.count(0) - 1, 9));
            edges.changesNothing("leastRate", maker, rows -> rows.leastRate(rows.count(0) - 1));
        }
    }
}
