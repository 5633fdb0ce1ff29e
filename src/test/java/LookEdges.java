/** The promises 13 to 17: common, same, firstLike, worst and mean. */
final class LookEdges {
    private static final boolean FRONT = Rows.FRONT;
    private static final boolean BACK = Rows.BACK;

    private final Edges edges;

    LookEdges(Edges edges) {
        this.edges = edges;
    }

    void run() {
        common();
        commonOfLongWays();
        commonRefused();
        same();
        sameOfFullRows();
        sameRefused();
        firstLike();
        firstLikeRefused();
        worst();
        worstRefused();
        mean();
        meanRefused();
    }

    /** Checks that a call refuses each number that is no version's: of 1, of 7 and of 100 versions. */
    private void refusesNoVersion(Of asked) {
        edges.refused("-1", Rows::busy, rows -> asked.of(rows, -1), Edges.BOUNDS);
        edges.refused("7 of 7", Rows::busy, rows -> asked.of(rows, 7), Edges.BOUNDS);
        edges.refused("1 of 1", EndVersions::new, rows -> asked.of(rows, 1), Edges.BOUNDS);
        edges.refused("100 of 100", Rows::full, rows -> asked.of(rows, 100), Edges.BOUNDS);
        for (int far : Edges.FAR) {
            edges.refused("" + far, Rows::busy, rows -> asked.of(rows, far), Edges.BOUNDS);
        }
    }

    private interface Of {
        Object of(EndVersions rows, int version);
    }

    // ---- promise 13

    private void common() {
        edges.promise(13, "Finds the latest common ancestor of two versions; a version is an ancestor of itself.");
        EndVersions rows = Rows.busy();
        for (int version = 0; version <= 6; version++) {
            edges.is("of " + version + " and itself", rows.common(version, version), version);
            edges.is("of " + version + " and the version 0", rows.common(version, 0), 0);
            edges.is("of the version 0 and " + version, rows.common(0, version), 0);
        }
        edges.promise(13, "Returns the number of the common ancestor with the greatest depth.");
        int[][] due = {{3, 4, 2}, {3, 2, 2}, {2, 4, 2}, {2, 5, 1}, {3, 6, 1}, {4, 5, 1}, {6, 5, 5}, {6, 2, 1},
            {1, 6, 1}};
        for (int[] three : due) {
            edges.is("of " + three[0] + " and " + three[1], rows.common(three[0], three[1]), three[2]);
            edges.is("of " + three[1] + " and " + three[0], rows.common(three[1], three[0]), three[2]);
        }
    }

    private void commonOfLongWays() {
        edges.promise(13, "with the greatest depth");
        EndVersions chain = Rows.chain();
        edges.is("the first and the last", chain.common(0, 99), 0);
        edges.is("the last and the one before", chain.common(99, 98), 98);
        edges.is("the second and the last", chain.common(1, 99), 1);
        edges.is("the last and itself", chain.common(99, 99), 99);
        chain.drop();
        chain.push(0, 1, BACK);
        edges.is("a deep one and a late one", chain.common(98, 99), 0);
        edges.is("a late one and a deep one", chain.common(99, 98), 0);
        EndVersions full = Rows.full();
        edges.is("two children of the version 0", full.common(98, 99), 0);
        EndVersions two = Rows.after(3, 3, "f1");
        int one = 1;
        int other = 1;
        for (int i = 0; i < 39; i++) {
            one = two.push(one, i, FRONT);
            other = two.push(other, i, BACK);
        }
        edges.is("two long ways from the version 1", two.common(one, other), 1);
        edges.is("two long ways, turned", two.common(other, one), 1);
    }

    private void commonRefused() {
        edges.promise(13, "`a`: number of a version");
        edges.is("the last one", Rows.full().common(99, 0), 0);
        edges.promise(13, "`b`: number of a version");
        edges.is("the last one", Rows.full().common(0, 99), 0);
        edges.promise(13, "if there is no such version");
        refusesNoVersion((rows, version) -> rows.common(version, 0));
        refusesNoVersion((rows, version) -> rows.common(0, version));
        refusesNoVersion((rows, version) -> rows.common(version, version));
    }

    // ---- promise 14

    private void same() {
        edges.promise(14, "Tells whether the rows of two versions are the same; the parts do not matter.");
        EndVersions rows = new EndVersions();
        rows.push(0, 1, FRONT);
        rows.push(0, 1, BACK);
        edges.is("one in front, one in the back", rows.same(1, 2), true);
        edges.is("turned", rows.same(2, 1), true);
        rows.push(1, 2, BACK);
        rows.push(0, 2, BACK);
        rows.push(4, 1, FRONT);
        edges.is("two by another way", rows.same(3, 5), true);
        rows.push(0, 2, FRONT);
        rows.push(6, 1, FRONT);
        edges.is("a rebuild does not matter", rows.same(3, 7), true);
        edges.promise(14, "Returns whether they are.");
        edges.is("an empty row and one of one value", rows.same(0, 1), false);
        edges.is("one value and two that begin with it", rows.same(1, 3), false);
        edges.is("two that begin with one, and this one", rows.same(3, 1), false);
        edges.is("one value and two that end with it", rows.same(4, 3), false);
        edges.is("another order", rows.same(3, rows.push(1, 2, FRONT)), false);
        edges.is("1 and -1", rows.same(1, rows.push(0, -1, FRONT)), false);
        edges.is("itself", rows.same(3, 3), true);
        edges.is("the empty row and itself", rows.same(0, 0), true);
        edges.is("two empty rows", rows.same(0, rows.pop(1, BACK)), true);
    }

    private void sameOfFullRows() {
        edges.promise(14, "Returns whether they are.");
        EndVersions rows = Rows.fullRow();
        int first = rows.push(rows.pop(40, FRONT), 7, FRONT);
        int last = rows.push(rows.pop(40, BACK), 7, BACK);
        int again = rows.push(rows.pop(40, BACK), 39, BACK);
        edges.is("40 values, the first one another", rows.same(40, first), false);
        edges.is("40 values, the last one another", rows.same(40, last), false);
        edges.is("40 values, all the same", rows.same(40, again), true);
        edges.is("39 of 40", rows.same(39, 40), false);
    }

    private void sameRefused() {
        edges.promise(14, "`a`: number of a version");
        edges.is("the last one", Rows.full().same(99, 98), false);
        edges.promise(14, "`b`: number of a version");
        edges.is("the last one", Rows.full().same(99, 99), true);
        edges.promise(14, "if there is no such version");
        refusesNoVersion((rows, version) -> rows.same(version, 0));
        refusesNoVersion((rows, version) -> rows.same(0, version));
        refusesNoVersion((rows, version) -> rows.same(version, version));
    }

    // ---- promise 15

    private void firstLike() {
        edges.promise(15, "Finds the lowest version with the same row as a version.");
        EndVersions rows = Rows.after(3, 3, "f1 x b1 y");
        rows.push(0, 1, FRONT);
        edges.is("the version 0", rows.firstLike(0), 0);
        edges.is("an empty row", rows.firstLike(2), 0);
        edges.is("another empty row", rows.firstLike(4), 0);
        edges.is("the lowest of three", rows.firstLike(5), 1);
        edges.is("the lowest of three, from the second", rows.firstLike(3), 1);
        edges.is("the lowest itself", rows.firstLike(1), 1);
        edges.promise(15, "Returns the lowest version with the same row, perhaps this one.");
        edges.is("a row like no other", Rows.full().firstLike(99), 99);
        EndVersions like = Rows.star(99);
        like.push(0, 98, BACK);
        edges.is("the last one, like the one before", like.firstLike(99), 98);
        edges.is("a full row", Rows.fullRow().firstLike(40), 40);
        edges.is("a higher version does not count", like.firstLike(98), 98);
    }

    private void firstLikeRefused() {
        edges.promise(15, "`version`: number of a version");
        edges.is("the only one", new EndVersions().firstLike(0), 0);
        edges.promise(15, "if there is no such version");
        refusesNoVersion((rows, version) -> rows.firstLike(version));
    }

    // ---- promise 16

    private void worst() {
        edges.promise(16, "Returns the greatest cost on the way from the version 0 to a version.");
        EndVersions rows = Rows.busy();
        int[] due = {0, 1, 1, 3, 2, 1, 2};
        for (int version = 0; version < due.length; version++) {
            edges.is("the version " + version, rows.worst(version), due[version]);
        }
        edges.promise(16, "of the versions on this way, this one too; 0 for the version 0");
        edges.is("the version 0 alone", new EndVersions().worst(0), 0);
        EndVersions chain = Rows.chain();
        edges.is("before the cost of 3", chain.worst(2), 1);
        edges.is("at the cost of 3", chain.worst(3), 3);
        edges.is("long after the cost of 3", chain.worst(99), 3);
        edges.is("another way", rows.worst(rows.push(0, 1, FRONT)), 1);
    }

    private void worstRefused() {
        edges.promise(16, "`version`: number of a version");
        edges.is("the last one", Rows.full().worst(99), 1);
        edges.promise(16, "if there is no such version");
        refusesNoVersion((rows, version) -> rows.worst(version));
    }

    // ---- promise 17

    private void mean() {
        edges.promise(17, "Returns the mean cost on the way from the version 0 to a version.");
        EndVersions rows = Rows.busy();
        double[] due = {0.0, 1.0, 1.0, 5.0 / 3.0, 4.0 / 3.0, 1.0, 4.0 / 3.0};
        for (int version = 0; version < due.length; version++) {
            edges.is("the version " + version, rows.mean(version), due[version]);
        }
        edges.promise(17, "divided by the depth of the version, converted to double; 0.0 for the version 0");
        edges.is("the version 0 alone", new EndVersions().mean(0), 0.0);
        EndVersions half = Rows.after(1, 3, "f1 f2 b3 b4");
        edges.is("6 by 4", half.mean(4), 1.5);
        edges.is("4 by 3", half.mean(3), 4.0 / 3.0);
        EndVersions chain = Rows.chain();
        edges.is("101 by 99", chain.mean(99), 101.0 / 99.0);
        edges.is("100 by 98", chain.mean(98), 100.0 / 98.0);
    }

    private void meanRefused() {
        edges.promise(17, "`version`: number of a version");
        edges.is("the last one", Rows.full().mean(99), 1.0);
        edges.promise(17, "if there is no such version");
        refusesNoVersion((rows, version) -> rows.mean(version));
    }
}
