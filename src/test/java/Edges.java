/** Tests of the sentences that name a boundary case: each is begun with the head and the words that it tests. */
final class Edges {
    static final String BOUNDS = "throws IndexOutOfBoundsException";
    static final String ARGUMENT = "throws IllegalArgumentException";
    static final String STATE = "throws IllegalStateException";
    static final String ELEMENT = "throws NoSuchElementException";

    /** Numbers that are far out of every range, and those that wrap around to a small one in fewer bits. */
    static final int[] FAR = {Integer.MIN_VALUE, Integer.MAX_VALUE, Integer.MIN_VALUE + 1, Integer.MAX_VALUE - 1,
        -256, 256, -65536, 65536};

    /** Makes the same object at each call. */
    interface Maker {
        EndVersions make();
    }

    /** A call on an object. */
    interface Asked {
        Object of(EndVersions rows);
    }

    private final Checks checks = new Checks("EdgeTest");
    private final Document document;
    private String name = "";
    private int tests = 0;

    Edges(Document document) {
        this.document = document;
    }

    /** Begins the test of a sentence under the head 'Terms'. */
    void terms(String words) {
        begin("Terms", words);
    }

    /** Begins the test of a sentence under the head 'What it is'. */
    void whatItIs(String words) {
        begin("What it is", words);
    }

    /** Begins the test of a sentence of a promise. */
    void promise(int number, String words) {
        begin("Promise " + number, words);
    }

    private void begin(String head, String words) {
        tests++;
        name = head + ", '" + words + "': ";
        checks.equal(name + "stands in the document", document.quote(head, words), true);
    }

    void is(String what, long got, long due) {
        checks.equal(name + what, got, due);
    }

    void is(String what, Object got, Object due) {
        checks.equal(name + what, got, due);
    }

    void facts(String what, EndVersions rows, int version, String due) {
        checks.equal(name + what + ", its facts", Rows.facts(rows, version), due);
    }

    void row(String what, EndVersions rows, int version, String due) {
        checks.equal(name + what + ", its row", Rows.row(rows, version), due);
    }

    /** A call that is refused, asked of an object that is used further. */
    void throwsOne(String what, Checks.Call call, String due) {
        checks.equal(name + what, Checks.outcome(call), due);
    }

    /** A call that is refused with the due exception, and leaves an object as one on which it was not called. */
    void refused(String what, Maker maker, Asked asked, String due) {
        EndVersions rows = maker.make();
        checks.equal(name + what, Checks.outcome(() -> asked.of(rows)), due);
        checks.equal(name + what + " changes nothing", Rows.portrait(rows), Rows.portrait(maker.make()));
    }

    /** A call that answers, and saves no state: the object stays as one on which it was not called. */
    void changesNothing(String what, Maker maker, Asked asked) {
        EndVersions rows = maker.make();
        checks.equal(name + what + " answers", Checks.outcome(() -> asked.of(rows)).startsWith("throws"), false);
        checks.equal(name + what + " changes nothing", Rows.portrait(rows), Rows.portrait(maker.make()));
    }

    void end() {
        for (String sentence : document.unquoted()) {
            checks.equal("a test of '" + sentence + "'", "missing", "there");
        }
        System.out.println("EdgeTest: " + tests + " sentences, each with a test of its own");
        checks.end();
    }
}
