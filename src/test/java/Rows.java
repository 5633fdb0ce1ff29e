/** Objects of EndVersions that tests begin with, and what can be told of them. */
final class Rows {
    static final boolean FRONT = true;
    static final boolean BACK = false;

    private Rows() {
    }

    // ---- making

    static void write(EndVersions rows, String text) {
        for (int i = 0; i < text.length(); i++) {
            rows.append(text.charAt(i));
        }
    }

    static EndVersions withText(String text) {
        EndVersions rows = new EndVersions();
        write(rows, text);
        return rows;
    }

    /** Does acts such as "f1 b-2 x y", each on the version before, by push and pop; returns the last version. */
    static int act(EndVersions rows, int from, String acts) {
        int last = from;
        for (String word : acts.split(" ")) {
            boolean front = word.charAt(0) == 'f' || word.charAt(0) == 'x';
            last = word.length() == 1 ? rows.pop(last, front)
                : rows.push(last, Integer.parseInt(word.substring(1)), front);
        }
        return last;
    }

    /** An object with these settings whose versions 1 and so on are made by the acts. */
    static EndVersions after(int rate, int ratio, String acts) {
        EndVersions rows = new EndVersions();
        rows.set(0, rate);
        rows.set(1, ratio);
        act(rows, 0, acts);
        return rows;
    }

    /** Pushes 1, 2, 3 and so on until the parts have these sizes, as evenly as can be; returns the last version. */
    static int grow(EndVersions rows, int front, int back) {
        int last = 0;
        int value = 0;
        for (int i = 0; i < Math.max(front, back); i++) {
            if (i < back) {
                last = rows.push(last, ++value, BACK);
            }
            if (i < front) {
                last = rows.push(last, ++value, FRONT);
            }
        }
        return last;
    }

    static int pushMany(EndVersions rows, int from, int times, boolean front) {
        int last = from;
        for (int i = 0; i < times; i++) {
            last = rows.push(last, i, front);
        }
        return last;
    }

    static int popMany(EndVersions rows, int from, int times, boolean front) {
        int last = from;
        for (int i = 0; i < times; i++) {
            last = rows.pop(last, front);
        }
        return last;
    }

    /** An object with so many versions, all but the version 0 made by pushes on it; the version n has the row n. */
    static EndVersions star(int versions) {
        EndVersions rows = new EndVersions();
        for (int i = 1; i < versions; i++) {
            rows.push(0, i, FRONT);
        }
        return rows;
    }

    /** An object whose version 99 is the 99th act in a row; the versions 3 and on cost 3, 1, 1 and so on. */
    static EndVersions chain() {
        EndVersions rows = new EndVersions();
        int last = act(rows, 0, "f1 f2 y");
        for (int i = 0; i < 96; i++) {
            last = i % 2 == 0 ? rows.pop(last, FRONT) : rows.push(last, i, FRONT);
        }
        return rows;
    }

    /** An object with 100 versions. */
    static EndVersions full() {
        return star(100);
    }

    /** An object whose version 40 has the row 0 to 39. */
    static EndVersions fullRow() {
        EndVersions rows = new EndVersions();
        pushMany(rows, 0, 40, BACK);
        return rows;
    }

    /** An object with 100 versions, the version 40 with the row 0 to 39. */
    static EndVersions fullRowAndVersions() {
        EndVersions rows = fullRow();
        for (int i = 41; i < 100; i++) {
            rows.push(0, i, FRONT);
        }
        return rows;
    }

    /** An object with branches, rebuilds in progress, a stall, a text, settings and four saved states. */
    static EndVersions busy() {
        EndVersions rows = withText("f5;x;");
        rows.set(0, 1);
        act(rows, 0, "f1 f2 y");
        rows.push(2, -3, BACK);
        rows.run(1);
        rows.set(1, 4);
        return rows;
    }

    /** The busy object with a text that ends too early. */
    static EndVersions busyWithFault() {
        EndVersions rows = busy();
        rows.append('f');
        return rows;
    }

    /** The object with 100 versions and a text with a fault at its first byte. */
    static EndVersions fullWithFault() {
        EndVersions rows = full();
        rows.append(';');
        return rows;
    }

    // ---- telling

    /** The facts size, front, back, debt, goal, cost and extra steps of a version. */
    static String facts(EndVersions rows, int version) {
        StringBuilder told = new StringBuilder();
        for (int what = 1; what <= 7; what++) {
            told.append(what == 1 ? "" : " ").append(rows.version(version, what));
        }
        return told.toString();
    }

    static String row(EndVersions rows, int version) {
        StringBuilder told = new StringBuilder();
        for (int place = 0; place < rows.version(version, 1); place++) {
            told.append(place == 0 ? "" : " ").append(rows.at(version, place));
        }
        return told.toString();
    }

    /** The whole numbers from one to another one, as row() tells them. */
    static String numbers(int from, int to) {
        StringBuilder told = new StringBuilder();
        int step = from <= to ? 1 : -1;
        for (int number = from; number != to + step; number += step) {
            told.append(number == from ? "" : " ").append(number);
        }
        return told.toString();
    }

    /** All that the face shows of an object, its text and its saved states too; asking uses the object up. */
    static String portrait(EndVersions rows) {
        StringBuilder told = new StringBuilder().append(rows.digest());
        for (int version = 1; version < rows.count(0); version++) {
            told.append(' ').append(rows.value(version));
        }
        for (int i = 0; i < 5; i++) {
            int last = rows.count(0) - 1;
            told.append("; undo ").append(Checks.outcome(rows::undo)).append(' ').append(rows.digest());
            told.append(' ').append(Checks.outcome(() -> rows.value(last)));
        }
        // What the text is shows when it is run as it is, and when it is made longer.
        told.append("; run ").append(rows.run(0)).append(' ').append(rows.digest());
        told.append(' ').append(Checks.outcome(() -> rows.append('0'))).append(' ').append(rows.run(0));
        told.append(' ').append(Checks.outcome(() -> rows.append(';'))).append(' ').append(rows.run(0));
        return told.append(' ').append(rows.digest()).append(' ').append(rows.clearText()).toString();
    }
}
