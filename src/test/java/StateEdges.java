import java.math.BigInteger;

/** The promises 24 and 25: undo and digest; and the 512 calls of an object. */
final class StateEdges {
    private static final boolean FRONT = Rows.FRONT;
    private static final boolean BACK = Rows.BACK;

    private final Edges edges;

    StateEdges(Edges edges) {
        this.edges = edges;
    }

    void run() {
        undoRestores();
        undoReturns();
        undoOfNothing();
        undoAfterUndo();
        digestOfNew();
        digestOfAll();
        digestOfFull();
        digestOverflows();
        looksSaveNothing();
        lastCall();
    }

    // ---- promise 24

    private void undoRestores() {
        edges.promise(24, "Restores the most recently saved state and removes it from the saved states.");
        EndVersions rows = new EndVersions();
        rows.push(0, 1, BACK);
        rows.push(1, 2, BACK);
        rows.drop();
        rows.push(1, 3, FRONT);
        rows.undo();
        edges.is("the state before the push", rows.count(0), 2);
        rows.undo();
        edges.row("the state before the drop", rows, 2, "1 2");
        edges.is("its value", rows.value(2), 2);
        rows.undo();
        edges.is("the state before the second push", rows.count(0), 2);
        rows.undo();
        edges.is("the state of the new object", rows.digest(), new EndVersions().digest());
        EndVersions full = Rows.full();
        full.clear();
        full.push(0, 7, BACK);
        full.undo();
        full.undo();
        edges.is("100 versions", full.count(0), 100);
        edges.row("the last one", full, 99, "99");
        edges.row("the first one", full, 1, "1");
        EndVersions forty = Rows.fullRow();
        forty.clear();
        Rows.act(forty, 0, "f9");
        forty.undo();
        forty.undo();
        edges.row("40 values", forty, 40, Rows.numbers(0, 39));
        edges.is("the value of the last act", forty.value(40), 39);
    }

    private void undoReturns() {
        edges.promise(24, "Returns the number of saved states that remain.");
        EndVersions one = Rows.star(2);
        edges.is("of one", one.undo(), 0);
        EndVersions four = Rows.star(5);
        for (int left = 3; left >= 0; left--) {
            edges.is("of four", four.undo(), left);
        }
        EndVersions full = Rows.full();
        edges.is("of 99 calls", full.undo(), 3);
    }

    private void undoOfNothing() {
        edges.promise(24, "if there is no saved state");
        edges.refused("of a new object", EndVersions::new, EndVersions::undo, Edges.STATE);
        edges.refused("after append", () -> Rows.withText("f1;"), EndVersions::undo, Edges.STATE);
        edges.refused("after four undos", () -> {
            EndVersions rows = Rows.busy();
            for (int i = 0; i < 4; i++) {
                rows.undo();
            }
            return rows;
        }, EndVersions::undo, Edges.STATE);
        edges.refused("after refused calls", () -> {
            EndVersions rows = new EndVersions();
            Checks.outcome(() -> rows.set(0, 10));
            Checks.outcome(() -> rows.push(0, 1000, FRONT));
            Checks.outcome(() -> rows.pop(0, BACK));
            Checks.outcome(rows::drop);
            rows.append('q');
            rows.run(0);
            return rows;
        }, EndVersions::undo, Edges.STATE);
    }

    private void undoAfterUndo() {
        edges.promise(24, "removes it from the saved states");
        EndVersions rows = Rows.star(6);
        edges.is("undo of the fifth", rows.undo(), 3);
        edges.is("undo of the fourth", rows.undo(), 2);
        edges.is("a push", rows.push(3, 8, BACK), 4);
        edges.row("its row", rows, 4, "3 8");
        edges.is("undo of the push", rows.undo(), 2);
        edges.is("the state before it", rows.count(0), 4);
        edges.is("undo of the third", rows.undo(), 1);
        rows.set(0, 9);
        rows.set(1, 2);
        rows.clear();
        edges.is("undo of clear, four were saved again", rows.undo(), 3);
        edges.is("undo of the ratio", rows.undo(), 2);
        edges.is("the ratio", rows.setting(1), 3);
        edges.is("the rate", rows.setting(0), 9);
        edges.is("undo of the rate", rows.undo(), 1);
        edges.row("the version 2", rows, 2, "2");
        edges.is("undo of the second", rows.undo(), 0);
        edges.is("the version 1 is left", rows.count(0), 2);
    }

    // ---- promise 25

    private static long hash(long... values) {
        long hash = 3767;
        for (long value : values) {
            hash = 31 * hash + value;
        }
        return hash;
    }

    private void digestOfNew() {
        edges.promise(25, "Returns a hash of the state.");
        edges.promise(25, "Start with h = 3767");
        long due = hash(0, 1, 1, 0, 0, 0, 0, 0, 0, 3, 3, -1, 0, 0, 0, 0, -1, 0, 0, -1, 0, 0);
        edges.is("a new object", new EndVersions().digest(), due);
        EndVersions rows = new EndVersions();
        rows.append('f');
        due = hash(1, 1, 1, 0, 0, 0, 0, 0, 0, 3, 3, -1, 0, 0, 0, 0, -1, 0, 0, -1, 0, 0);
        edges.is("the length of the text", rows.digest(), due);
        rows.clearText();
        rows.append('q');
        edges.is("its bytes do not matter", rows.digest(), due);
        rows.set(0, 3);
        due = hash(1, 1, 1, 0, 0, 0, 0, 0, 0, 3, 3, -1, 0, 0, 0, 0, -1, 0, 0, -1, 0, 1);
        edges.is("the number of saved states", rows.digest(), due);
        rows.set(0, 9);
        rows.set(1, 2);
        due = hash(1, 1, 1, 0, 0, 0, 0, 0, 0, 9, 2, -1, 0, 0, 0, 0, -1, 0, 0, -1, 0, 3);
        edges.is("the settings", rows.digest(), due);
        rows.set(1, 2);
        rows.set(1, 2);
        due = hash(1, 1, 1, 0, 0, 0, 0, 0, 0, 9, 2, -1, 0, 0, 0, 0, -1, 0, 0, -1, 0, 4);
        edges.is("four saved states of five", rows.digest(), due);
    }

    private void digestOfAll() {
        edges.promise(25, "the values of version() for what = 0 to 9, and then its row, from the front");
        long due = hash(5, 7, 3, 3, 10, 1, 2, 4, 3, 1, 4,
            -1, 0, 0, 0, 0, -1, 0, 0, -1, 0,
            0, 1, 1, 0, 0, -1, 1, 0, 0, 1, 1,
            1, 2, 2, 0, 2, 1, 1, 0, 0, 2, 2, 1,
            2, 1, 1, 0, 0, -1, 3, 2, 3, 3, 2,
            2, 3, 2, 1, 1, 1, 2, 0, 1, 3, 2, 1, -3,
            1, 2, 2, 0, 2, 1, 1, 0, 0, 2, 5, 1,
            5, 1, 1, 0, 1, 0, 2, 0, 2, 3, 1,
            4);
        edges.is("all versions", Rows.busy().digest(), due);
        EndVersions rows = Rows.busy();
        edges.is("the same when it is asked again", rows.digest() - rows.digest(), 0);
    }

    private void digestOfFull() {
        edges.promise(25, "for each version the values of version()");
        BigInteger due = begun(0, 100, 99, 1, 99, 0, 0, 0, 1, 3, 3, -1, 0, 0, 0, 0, -1, 0, 0, -1, 0);
        for (int version = 1; version < 100; version++) {
            due = further(due, 0, 1, 1, 0, 0, -1, 1, 0, 0, 1, version);
        }
        edges.is("100 versions", Rows.full().digest(), further(due, 4).longValue());
    }

    private static BigInteger begun(int... values) {
        return further(BigInteger.valueOf(3767), values);
    }

    private static BigInteger further(BigInteger from, int... values) {
        BigInteger hash = from;
        for (int value : values) {
            hash = hash.multiply(BigInteger.valueOf(31)).add(BigInteger.valueOf(value));
        }
        return hash;
    }

    // An even and an odd row of negative values, so that the hash runs over at both ends of long.
    private void digestOverflows() {
        edges.promise(25, "with the overflow of long arithmetic ignored");
        EndVersions rows = new EndVersions();
        BigInteger due = begun(0, 3, 1, 1, 2, 0, 0, 0, 2, 3, 3, -1, 0, 0, 0, 0, -1, 0, 0, -1, 0);
        rows.push(0, -999, BACK);
        due = further(due, 0, 1, 0, 1, 0, -1, 1, 0, 1, 1, -999);
        rows.push(1, 999, FRONT);
        due = further(due, 1, 2, 1, 1, 0, -1, 1, 0, 0, 2, 999, -999);
        due = further(due, 2);
        edges.is("two pushes", rows.digest(), due.longValue());
        edges.is("it has run over", due.bitLength() > 64, true);
    }

    // ---- what is not undoable

    private void looksSaveNothing() {
        edges.terms("Each successful call of a method whose description says \"undoable\" saves the state");
        Edges.Asked[] looks = {rows -> rows.version(0, 0), rows -> rows.at(1, 0), rows -> rows.steps(1, 0),
            rows -> rows.count(7), rows -> rows.setting(1), rows -> rows.common(1, 0), rows -> rows.same(0, 1),
            rows -> rows.firstLike(1), rows -> rows.worst(1), rows -> rows.mean(1), EndVersions::digest,
            rows -> rows.value(1)};
        for (int i = 0; i < looks.length; i++) {
            edges.changesNothing("the look " + i, Rows::busy, looks[i]);
            edges.changesNothing("the look " + i + " at 100 versions", Rows::full, looks[i]);
        }
    }

    private void lastCall() {
        edges.whatItIs("An object is used for at most 512 calls after it has been made");
        EndVersions rows = new EndVersions();
        int calls = 0;
        while (calls < 500) {
            rows.push(0, calls, FRONT);
            rows.clear();
            calls += 2;
        }
        for (int value = 1; value <= 11; value++) {
            rows.push(0, value, BACK);
            calls++;
        }
        edges.is("the call " + (calls + 1), rows.at(11, 0), 11);
        EndVersions saved = new EndVersions();
        for (calls = 0; calls < 511; calls++) {
            saved.set(calls % 2, 2 + calls % 4);
        }
        edges.is("the call " + (calls + 1), saved.undo(), 3);
    }
}
