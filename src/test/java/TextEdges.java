/** The head 'Terms': the text, its syntax error position, and what running it means. */
final class TextEdges {
    private static final boolean FRONT = Rows.FRONT;

    private final Edges edges;

    TextEdges(Edges edges) {
        this.edges = edges;
    }

    void run() {
        hundredBytes();
        emptyText();
        semicolons();
        minus();
        digits();
        pops();
        zerosInFront();
        spaces();
        eachByteThatCanStand();
        faultAtFirstByte();
        faultAtLastByte();
        digitTooMany();
        endsTooEarly();
        faultInFullText();
        actsInTheirOrder();
        runAtFortyValues();
        runAtEmptyRow();
        runAtHundredVersions();
        runOfFullText();
    }

    private void errorIs(String text, int position) {
        edges.is("the position in '" + text + "'", Rows.withText(text).run(0), -10 - position);
    }

    /** Runs the text on the empty row: the row that its last act makes. */
    private void rowIs(String text, int acts, String due) {
        EndVersions rows = Rows.withText(text);
        edges.is("the acts of '" + text + "'", rows.run(0), acts);
        edges.row("'" + text + "'", rows, acts, due);
    }

    // ---- the text

    private void hundredBytes() {
        edges.terms("The text has at most 100 bytes.");
        EndVersions rows = Rows.withText("x;".repeat(49) + "x");
        edges.is("the hundredth byte", rows.append(';'), 100);
        edges.throwsOne("one more", () -> rows.append('x'), Edges.STATE);
        edges.is("the length", rows.clearText(), 100);
    }

    private void emptyText() {
        edges.terms("there may be no acts");
        EndVersions rows = new EndVersions();
        edges.is("a text that was never written", rows.run(0), 0);
        edges.is("its saved state", rows.undo(), 0);
        Rows.write(rows, "f1;");
        rows.clearText();
        edges.is("a text that was cleared", rows.run(0), 0);
        edges.is("no version", rows.count(0), 1);
    }

    private void semicolons() {
        edges.terms("each terminated by a semicolon");
        rowIs("f1;", 1, "1");
        rowIs("f1;b2;y;b3;", 4, "1 3");
        errorIs("f1;b2;y", 7);
        errorIs("f1b2;", 2);
        errorIs("xy;", 1);
        errorIs("f1;;", 3);
        errorIs(";f1;", 0);
    }

    private void minus() {
        edges.terms("an optional \"-\"");
        rowIs("f-1;b-20;f-999;", 3, "-999 -1 -20");
        rowIs("f1;b20;f999;", 3, "999 1 20");
        rowIs("f-0;", 1, "0");
        errorIs("f--1;", 2);
        errorIs("f1-;", 2);
        errorIs("-1;", 0);
        errorIs("x-;", 1);
        errorIs("f+1;", 1);
    }

    private void digits() {
        edges.terms("a value of one to three digits, to push it to the front or to the back");
        rowIs("f0;f9;b10;b99;f100;b999;", 6, "100 9 0 10 99 999");
        errorIs("f;", 1);
        errorIs("b-;", 2);
        errorIs("f1000;", 4);
        errorIs("b-1000;", 5);
    }

    private void pops() {
        edges.terms("\"x\", to pop at the front; \"y\", to pop at the back");
        rowIs("b1;b2;b3;x;", 4, "2 3");
        rowIs("b1;b2;b3;y;", 4, "1 2");
        errorIs("x1;", 1);
        errorIs("y1;", 1);
        errorIs("X;", 0);
        errorIs("z;", 0);
    }

    private void zerosInFront() {
        edges.terms("Values can have zeros in front.");
        rowIs("b000;b001;b010;b00;b01;b-001;b-010;b-000;", 8, "0 1 10 0 1 -1 -10 0");
        errorIs("f0000;", 4);
        errorIs("f0001;", 4);
    }

    private void spaces() {
        edges.terms("There are no spaces");
        errorIs(" ", 0);
        errorIs(" f1;", 0);
        errorIs("f 1;", 1);
        errorIs("f1 ;", 2);
        errorIs("f1; b2;", 3);
        errorIs("x;\n", 2);
    }

    // ---- the position

    private static final String FOUND = "the index of the first byte that cannot stand where it stands";

    // Each beginning with the bytes that can follow it; all the others can't.
    private void eachByteThatCanStand() {
        edges.terms(FOUND);
        String[][] beginnings = {{"", "fbxy"}, {"f", "-0123456789"}, {"b", "-0123456789"}, {"f-", "0123456789"},
            {"f1", ";0123456789"}, {"f-1", ";0123456789"}, {"b12", ";0123456789"}, {"b-12", ";0123456789"},
            {"f123", ";"}, {"f-123", ";"}, {"x", ";"}, {"y", ";"}, {"f1;", "fbxy"}, {"x;", "fbxy"}};
        for (String[] beginning : beginnings) {
            for (int value = 0; value <= 127; value++) {
                EndVersions rows = Rows.withText(beginning[0]);
                rows.append(value);
                int length = beginning[0].length();
                boolean stands = beginning[1].indexOf(value) >= 0;
                int due = !stands ? -10 - length : value == ';' ? 1 : -10 - (length + 1);
                boolean empty = value == ';' && (beginning[0].equals("x") || beginning[0].equals("y"));
                edges.is("'" + beginning[0] + "' and the byte " + value, rows.run(0), empty ? 0 : due);
            }
        }
    }

    private void faultAtFirstByte() {
        edges.terms(FOUND);
        errorIs(";", 0);
        errorIs("\0", 0);
        errorIs("\u007f", 0);
        errorIs("1;", 0);
        errorIs("qf1;b2;", 0);
        edges.refused("a question", Rows::fullWithFault, rows -> rows.leastRate(0), Edges.STATE);
    }

    private void faultAtLastByte() {
        edges.terms(FOUND);
        errorIs("f1;b2;q", 6);
        errorIs("f1;b2;;", 6);
        errorIs("f1;b2x", 5);
        errorIs("f1;b-;", 5);
        errorIs("f1;yx", 4);
        errorIs("f1;y\0", 4);
    }

    private void digitTooMany() {
        edges.terms("(a digit too many, too)");
        errorIs("f1234", 4);
        errorIs("f1234;", 4);
        errorIs("b-9990", 5);
        errorIs("x;f12345;", 6);
        errorIs("y0", 1);
    }

    private void endsTooEarly() {
        edges.terms("or the length of the text if the text ends too early");
        String[] texts = {"f", "b", "x", "y", "f-", "b-", "f1", "f12", "f123", "f-1", "f-12", "f-123", "f1;b", "x;y"};
        for (String text : texts) {
            errorIs(text, text.length());
        }
    }

    private void faultInFullText() {
        edges.terms("(a digit too many, too), or the length of the text");
        errorIs("x;".repeat(49) + "f1", 100);
        errorIs("x;".repeat(49) + "xq", 99);
        errorIs("x;".repeat(49) + "x1", 99);
        errorIs("x;".repeat(49) + "x", 99);
        errorIs("x;".repeat(49) + "xx", 99);
        errorIs("f-99;".repeat(19) + "f-999", 100);
        errorIs("q" + "f-99;".repeat(19) + "f-99", 0);
        edges.is("the full text without one", Rows.withText("f-99;".repeat(20)).run(0), 20);
    }

    // ---- running

    private void actsInTheirOrder() {
        edges.terms("is done on this version, each other one on the version that the one before has made");
        EndVersions rows = Rows.withText("f8;y;b9;");
        Rows.act(rows, 0, "f1 f2");
        edges.is("three acts", rows.run(1), 3);
        int[] parents = {0, 1, 1, 3, 4};
        String[] due = {"1", "2 1", "8 1", "8", "8 9"};
        for (int version = 1; version <= 5; version++) {
            edges.is("the parent of " + version, rows.version(version, 0), parents[version - 1]);
            edges.row("the version " + version, rows, version, due[version - 1]);
        }
        edges.facts("a stall in a run", rows, 4, "1 1 0 0 -1 3 2");
        EndVersions slow = Rows.withText("f1;f2;f3;");
        slow.set(0, 1);
        slow.run(0);
        edges.facts("the rate that is set", slow, 3, "3 3 0 1 2 2 0");
    }

    private void runAtFortyValues() {
        edges.terms("up to the first one that is not possible (a push on a row of 40 values,");
        EndVersions rows = Rows.fullRow();
        Rows.write(rows, "f7;b8;b9;x;");
        edges.is("from 40 values", rows.run(40), 0);
        edges.is("no version is made", rows.count(0), 41);
        edges.is("from 39 values", rows.run(39), 1);
        edges.is("from 38 values", rows.run(38), 2);
        edges.row("the last one is full", rows, 43, "7 " + Rows.numbers(0, 37) + " 8");
        edges.is("from 37 values", rows.run(37), 4);
        rows.clearText();
        Rows.write(rows, "y;f7;b8;x;");
        edges.is("a pop first, from 40 values", rows.run(40), 2);
        edges.row("its last one is full", rows, 49, "7 " + Rows.numbers(0, 38));
    }

    private void runAtEmptyRow() {
        edges.terms("a pop on an empty row,");
        EndVersions rows = Rows.withText("x;y;f1;");
        Rows.act(rows, 0, "f1 f2 f3");
        edges.is("from an empty row", rows.run(0), 0);
        edges.is("from one value", rows.run(1), 1);
        edges.is("from two values", rows.run(2), 3);
        edges.is("from three values", rows.run(3), 3);
        rows.clearText();
        Rows.write(rows, "y;x;f1;");
        edges.is("at the back of an empty row", rows.run(0), 0);
        edges.is("at the front of an empty row", rows.run(1), 1);
    }

    private void runAtHundredVersions() {
        edges.terms("or an act when there are 100 versions");
        for (int versions = 96; versions <= 100; versions++) {
            EndVersions rows = Rows.star(versions);
            Rows.write(rows, "f1;y;x;");
            edges.is("with " + versions + " versions", rows.run(1), Math.min(3, 100 - versions));
            edges.is("then", rows.count(0), Math.min(versions + 3, 100));
        }
    }

    private void runOfFullText() {
        edges.terms("Running the text from a version means");
        EndVersions pops = Rows.fullRow();
        Rows.write(pops, "x;".repeat(50));
        edges.is("50 pops of 40 values", pops.run(40), 40);
        edges.is("the last of them", pops.value(80), 39);
        EndVersions pushes = Rows.withText("f1;".repeat(33));
        edges.is("33 pushes", pushes.run(0), 33);
        EndVersions turns = Rows.withText("f1;y;".repeat(20));
        edges.is("40 acts by turns", turns.run(0), 40);
        edges.is("the last one's row", turns.version(40, 1), 0);
        edges.is("40 acts more", turns.run(40), 40);
        edges.is("up to 100 versions", turns.run(80), 19);
        EndVersions fifty = Rows.fullRow();
        fifty.push(10, 1, FRONT);
        Rows.write(fifty, "y;".repeat(25) + "x;".repeat(25));
        edges.is("50 pops of 40 values at both ends", fifty.run(40), 40);
        edges.is("the value that is left last", fifty.value(81), 14);
    }
}
