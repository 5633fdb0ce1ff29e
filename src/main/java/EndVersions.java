import java.util.NoSuchElementException;

/** Rows with two ends in versions that stay; ../shared/DOC.md tells its promises. */
public final class EndVersions {
    public static final int NONE = -1;

    private static final int MAX_VERSIONS = 100;
    private static final int MAX_ROW = 40;
    private static final int MAX_VALUE = 999;
    private static final int MAX_TEXT = 100;
    private static final int MAX_BYTE = 127;
    // The shortest act in a text, "x;", takes two bytes.
    private static final int MAX_TEXT_ACTS = MAX_TEXT / 2;
    private static final int MAX_SAVED = 4;

    private static final int RATE = 0;
    private static final int RATIO = 1;
    private static final int LEAST_RATE = 1;
    private static final int GREATEST_RATE = 9;
    private static final int LEAST_RATIO = 2;
    private static final int GREATEST_RATIO = 5;

    private static final int PUSH_FRONT = 0;
    private static final int PUSH_BACK = 1;
    private static final int POP_FRONT = 2;
    private static final int POP_BACK = 3;

    private static final int FACTS = 10;
    private static final int TOTALS = 8;
    private static final int SYNTAX_BASE = -10;
    private static final long DIGEST_START = 3767L;
    private static final long DIGEST_FACTOR = 31L;

    private final Script script = new Script();
    private final Trial trial = new Trial();
    private final State[] saved = new State[MAX_SAVED];
    private State now = new State();
    private int savedStates = 0;

    public EndVersions() {
    }

    // ---- acts

    public int set(int what, int value) throws IllegalArgumentException {
        if (!isSettingValue(what, value)) {
            throw new IllegalArgumentException("no such setting or value");
        }
        save();
        int previous = now.settingOf(what);
        now.changeSetting(what, value);
        return previous;
    }

    public int push(int version, int value, boolean front)
            throws IndexOutOfBoundsException, IllegalArgumentException, IllegalStateException {
        requireVersion(version);
        if (value < -MAX_VALUE || value > MAX_VALUE) {
            throw new IllegalArgumentException("value out of range");
        }
        int kind = front ? PUSH_FRONT : PUSH_BACK;
        if (!now.allows(version, kind)) {
            throw new IllegalStateException("the row or the versions are full");
        }
        save();
        return now.grow(version, kind, value);
    }

    public int pop(int version, boolean front)
            throws IndexOutOfBoundsException, NoSuchElementException, IllegalStateException {
        requireVersion(version);
        if (now.slot(version).size() == 0) {
            throw new NoSuchElementException("the row is empty");
        }
        int kind = front ? POP_FRONT : POP_BACK;
        if (!now.allows(version, kind)) {
            throw new IllegalStateException("the versions are full");
        }
        save();
        return now.grow(version, kind, 0);
    }

    public int drop() throws IllegalStateException {
        if (now.held <= 1) {
            throw new IllegalStateException("there is the version 0 alone");
        }
        save();
        now.held--;
        return now.held;
    }

    public int clear() {
        save();
        int dropped = now.held - 1;
        now.held = 1;
        return dropped;
    }

    // ---- values

    public int version(int version, int what) throws IndexOutOfBoundsException, IllegalArgumentException {
        requireVersion(version);
        if (what < 0 || what >= FACTS) {
            throw new IllegalArgumentException("no such fact of a version");
        }
        return now.slot(version).fact(what);
    }

    public int value(int version) throws IndexOutOfBoundsException, IllegalStateException {
        requireVersion(version);
        if (version == 0) {
            throw new IllegalStateException("no act made the version 0");
        }
        return now.slot(version).moved;
    }

    public int at(int version, int place) throws IndexOutOfBoundsException {
        requirePlace(version, place);
        return now.slot(version).look(place);
    }

    public int steps(int version, int place) throws IndexOutOfBoundsException {
        requirePlace(version, place);
        Version row = now.slot(version);
        return place < row.front ? place + 1 : row.size() - place;
    }

    public int count(int what) throws IllegalArgumentException {
        if (what < 0 || what >= TOTALS) {
            throw new IllegalArgumentException("no such number");
        }
        return now.total(what);
    }

    public int setting(int what) throws IllegalArgumentException {
        if (what != RATE && what != RATIO) {
            throw new IllegalArgumentException("no such setting");
        }
        return now.settingOf(what);
    }

    // ---- looking at versions

    public int common(int a, int b) throws IndexOutOfBoundsException {
        requireVersion(a);
        requireVersion(b);
        return now.meeting(a, b);
    }

    public boolean same(int a, int b) throws IndexOutOfBoundsException {
        requireVersion(a);
        requireVersion(b);
        return now.slot(a).hasRowOf(now.slot(b));
    }

    public int firstLike(int version) throws IndexOutOfBoundsException {
        requireVersion(version);
        return now.firstWithRowOf(version);
    }

    public int worst(int version) throws IndexOutOfBoundsException {
        requireVersion(version);
        return now.greatestCostOnWay(version);
    }

    public double mean(int version) throws IndexOutOfBoundsException {
        requireVersion(version);
        int depth = now.slot(version).depth;
        if (depth <= 0) {
            return 0.0;
        }
        return (double) now.sumOfCostsOnWay(version) / (double) depth;
    }

    // ---- text

    public int append(int value) throws IllegalArgumentException, IllegalStateException {
        if (value < 0 || value > MAX_BYTE) {
            throw new IllegalArgumentException("byte out of range");
        }
        if (script.length >= MAX_TEXT) {
            throw new IllegalStateException("the text is full");
        }
        script.extend(value);
        return script.length;
    }

    public int clearText() {
        int length = script.length;
        script.length = 0;
        return length;
    }

    public int run(int version) throws IndexOutOfBoundsException {
        requireVersion(version);
        int error = script.read();
        if (error != NONE) {
            return SYNTAX_BASE - error;
        }
        save();
        return now.growBy(script, version);
    }

    public int stalls(int version, int rate)
            throws IndexOutOfBoundsException, IllegalArgumentException, IllegalStateException {
        requireVersion(version);
        requireRate(rate);
        requireReadableText();
        trial.play(script, now, version, rate);
        return trial.stalled;
    }

    public int worstWith(int version, int rate)
            throws IndexOutOfBoundsException, IllegalArgumentException, IllegalStateException {
        requireVersion(version);
        requireRate(rate);
        requireReadableText();
        trial.play(script, now, version, rate);
        return trial.greatestCost;
    }

    public int leastRate(int version) throws IndexOutOfBoundsException, IllegalStateException {
        requireVersion(version);
        requireReadableText();
        for (int rate = LEAST_RATE; rate <= GREATEST_RATE; rate++) {
            trial.play(script, now, version, rate);
            if (trial.stalled == 0) {
                return rate;
            }
        }
        return NONE;
    }

    // ---- state

    public int undo() throws IllegalStateException {
        int last = savedStates - 1;
        State restored = last < 0 || last >= saved.length ? null : saved[last];
        if (restored == null) {
            throw new IllegalStateException("there is no saved state");
        }
        // The state that is left behind stays as room for the next save.
        saved[last] = now;
        now = restored;
        savedStates = last;
        return last;
    }

    public long digest() {
        long hash = mixed(DIGEST_START, script.length);
        for (int what = 0; what < TOTALS; what++) {
            hash = mixed(hash, now.total(what));
        }
        hash = mixed(hash, now.settingOf(RATE));
        hash = mixed(hash, now.settingOf(RATIO));
        for (int version = 0; version < now.held; version++) {
            hash = mixedWith(hash, now.slot(version));
        }
        return mixed(hash, savedStates);
    }

    // ---- helpers

    private void requireVersion(int version) {
        if (!now.has(version)) {
            throw new IndexOutOfBoundsException("no such version");
        }
    }

    private void requirePlace(int version, int place) {
        if (!now.hasPlace(version, place)) {
            throw new IndexOutOfBoundsException("no such version or place");
        }
    }

    private static void requireRate(int rate) {
        if (!isRate(rate)) {
            throw new IllegalArgumentException("rate out of range");
        }
    }

    private void requireReadableText() {
        if (script.read() != NONE) {
            throw new IllegalStateException("the text has a syntax error");
        }
    }

    private static boolean isRate(int value) {
        return value >= LEAST_RATE && value <= GREATEST_RATE;
    }

    private static boolean isRatio(int value) {
        return value >= LEAST_RATIO && value <= GREATEST_RATIO;
    }

    private static boolean isSettingValue(int what, int value) {
        return what == RATE && isRate(value) || what == RATIO && isRatio(value);
    }

    private static boolean isPush(int kind) {
        return kind == PUSH_FRONT || kind == PUSH_BACK;
    }

    private static boolean isAtFront(int kind) {
        return kind == PUSH_FRONT || kind == POP_FRONT;
    }

    private static int cell(int[] cells, int place) {
        return place >= 0 && place < cells.length ? cells[place] : 0;
    }

    private static void fill(int[] cells, int place, int value) {
        if (place >= 0 && place < cells.length) {
            cells[place] = value;
        }
    }

    private static long mixed(long hash, int value) {
        return DIGEST_FACTOR * hash + value;
    }

    private static long mixedWith(long start, Version version) {
        long hash = start;
        for (int what = 0; what < FACTS; what++) {
            hash = mixed(hash, version.fact(what));
        }
        int size = version.size();
        for (int place = 0; place < size; place++) {
            hash = mixed(hash, version.look(place));
        }
        return hash;
    }

    private void save() {
        if (savedStates >= MAX_SAVED) {
            moveOldestSavedToEnd();
            savedStates = MAX_SAVED - 1;
        }
        if (savedStates < 0 || savedStates >= saved.length) {
            return;
        }
        State room = saved[savedStates];
        if (room == null) {
            room = new State();
            saved[savedStates] = room;
        }
        room.copyFrom(now);
        savedStates++;
    }

    // The oldest state is dropped, and its room serves the one that is saved next.
    private void moveOldestSavedToEnd() {
        for (int i = 1; i < saved.length; i++) {
            State oldest = saved[i - 1];
            saved[i - 1] = saved[i];
            saved[i] = oldest;
        }
    }

    /** A version; an act is done in place, on a copy of the parent. */
    private static final class Version {
        private static final int COST = 6;
        private static final int EXTRA = 7;
        private static final int DEPTH = 9;

        int parent = NONE;
        int kind = NONE;
        int moved = 0;
        int depth = 0;
        int front = 0;
        int back = 0;
        int debt = 0;
        int goal = NONE;
        int cost = 0;
        int extra = 0;
        private final int[] row = new int[MAX_ROW];

        Version() {
        }

        void copyFrom(Version other) {
            parent = other.parent;
            kind = other.kind;
            moved = other.moved;
            depth = other.depth;
            front = other.front;
            back = other.back;
            debt = other.debt;
            goal = other.goal;
            cost = other.cost;
            extra = other.extra;
            int size = other.size();
            if (size >= 0 && size <= row.length && size <= other.row.length) {
                System.arraycopy(other.row, 0, row, 0, size);
            }
        }

        int size() {
            return front + back;
        }

        int look(int place) {
            return cell(row, place);
        }

        boolean isRebuilding() {
            return debt > 0;
        }

        int fact(int what) {
            switch (what) {
                case 0:
                    return parent;
                case 1:
                    return size();
                case 2:
                    return front;
                case 3:
                    return back;
                case 4:
                    return debt;
                case 5:
                    return goal;
                case COST:
                    return cost;
                case EXTRA:
                    return extra;
                case 8:
                    return kind;
                case DEPTH:
                    return depth;
                default:
                    return NONE;
            }
        }

        boolean hasRowOf(Version other) {
            int size = size();
            if (size != other.size()) {
                return false;
            }
            for (int place = 0; place < size; place++) {
                if (look(place) != other.look(place)) {
                    return false;
                }
            }
            return true;
        }

        boolean permits(int act) {
            return isPush(act) ? size() < MAX_ROW : size() > 0;
        }

        void perform(int act, int value, int rate, int ratio) {
            kind = act;
            depth++;
            cost = 0;
            extra = 0;
            boolean atFront = isAtFront(act);
            if (isPush(act)) {
                put(value, atFront);
            } else {
                fetchFromOtherPart(atFront);
                take(atFront);
            }
            cost++;
            pay(rate);
            beginRebuild(ratio);
        }

        private void fetchFromOtherPart(boolean atFront) {
            if ((atFront ? front : back) > 0) {
                return;
            }
            if (isRebuilding()) {
                extra += debt;
                endRebuild();
            }
            if ((atFront ? front : back) == 0) {
                extra += size() - 1;
            }
            cost += extra;
        }

        private void put(int value, boolean atFront) {
            int size = size();
            moved = value;
            if (atFront) {
                for (int place = size; place > 0; place--) {
                    fill(row, place, look(place - 1));
                }
                fill(row, 0, value);
                front++;
                moveGoal(1);
            } else {
                fill(row, size, value);
                back++;
                moveGoal(0);
            }
        }

        private void take(boolean atFront) {
            int last = size() - 1;
            moved = look(atFront ? 0 : last);
            if (atFront) {
                for (int place = 0; place < last; place++) {
                    fill(row, place, look(place + 1));
                }
            }
            boolean fromFront = atFront ? front > 0 : back == 0;
            if (fromFront) {
                front--;
            } else {
                back--;
            }
            moveGoal(atFront ? -1 : 0);
        }

        private void moveGoal(int change) {
            if (isRebuilding()) {
                goal = Math.min(Math.max(goal + change, 0), size());
            }
        }

        private void pay(int rate) {
            if (!isRebuilding()) {
                return;
            }
            int paid = Math.min(rate, debt);
            cost += paid;
            debt -= paid;
            if (debt == 0) {
                endRebuild();
            }
        }

        private void endRebuild() {
            int size = size();
            front = goal;
            back = size - goal;
            debt = 0;
            goal = NONE;
        }

        private void beginRebuild(int ratio) {
            if (!isRebuilding() && Math.max(front, back) > ratio * Math.min(front, back) + 1) {
                debt = size();
                goal = size() / 2;
            }
        }
    }

    /** All that undo restores. */
    private static final class State {
        int held = 1;
        int rate = 3;
        int ratio = 3;
        private final Version[] versions = new Version[MAX_VERSIONS];
        private final int[] childMarks = new int[MAX_VERSIONS];

        State() {
        }

        void copyFrom(State other) {
            held = other.held;
            rate = other.rate;
            ratio = other.ratio;
            for (int number = 0; number < held; number++) {
                slot(number).copyFrom(other.slot(number));
            }
        }

        boolean has(int number) {
            return number >= 0 && number < held;
        }

        boolean hasPlace(int number, int place) {
            return has(number) && place >= 0 && place < slot(number).size();
        }

        // Versions are made when they are first needed, so that an object that is little used takes little room.
        Version slot(int number) {
            if (number < 0 || number >= versions.length) {
                return new Version();
            }
            Version found = versions[number];
            if (found == null) {
                found = new Version();
                versions[number] = found;
            }
            return found;
        }

        int settingOf(int what) {
            return what == RATE ? rate : ratio;
        }

        void changeSetting(int what, int value) {
            if (what == RATE) {
                rate = value;
            } else {
                ratio = value;
            }
        }

        int left() {
            return MAX_VERSIONS - held;
        }

        boolean allows(int number, int act) {
            return left() > 0 && slot(number).permits(act);
        }

        int grow(int parent, int act, int value) {
            int number = held;
            Version made = slot(number);
            made.copyFrom(slot(parent));
            made.parent = parent;
            made.perform(act, value, rate, ratio);
            held++;
            return number;
        }

        int growBy(Script script, int start) {
            int current = start;
            for (int i = 0; i < script.acts; i++) {
                int act = script.actAt(i);
                if (!allows(current, act)) {
                    return i;
                }
                current = grow(current, act, script.valueAt(i));
            }
            return script.acts;
        }

        int total(int what) {
            switch (what) {
                case 0:
                    return held;
                case 1:
                    return childless();
                case 2:
                    return greatestFact(Version.COST);
                case 3:
                    return sumOfFacts(Version.COST);
                case 4:
                    return stalled();
                case 5:
                    return sumOfFacts(Version.EXTRA);
                case 6:
                    return rebuilding();
                default:
                    return greatestFact(Version.DEPTH);
            }
        }

        private int childless() {
            for (int number = 0; number < held; number++) {
                fill(childMarks, number, 0);
            }
            int parents = 0;
            for (int number = 1; number < held; number++) {
                int parent = slot(number).parent;
                if (cell(childMarks, parent) == 0) {
                    fill(childMarks, parent, 1);
                    parents++;
                }
            }
            return held - parents;
        }

        private int greatestFact(int what) {
            int greatest = 0;
            for (int number = 0; number < held; number++) {
                greatest = Math.max(greatest, slot(number).fact(what));
            }
            return greatest;
        }

        private int sumOfFacts(int what) {
            int sum = 0;
            for (int number = 0; number < held; number++) {
                sum += slot(number).fact(what);
            }
            return sum;
        }

        private int stalled() {
            int found = 0;
            for (int number = 0; number < held; number++) {
                if (slot(number).extra > 0) {
                    found++;
                }
            }
            return found;
        }

        private int rebuilding() {
            int found = 0;
            for (int number = 0; number < held; number++) {
                if (slot(number).isRebuilding()) {
                    found++;
                }
            }
            return found;
        }

        // A parent's number is less than its child's, so the greater number is never an ancestor of the other one.
        int meeting(int a, int b) {
            int one = a;
            int other = b;
            for (int i = 0; i < 2 * MAX_VERSIONS && one != other; i++) {
                if (one > other) {
                    one = slot(one).parent;
                } else {
                    other = slot(other).parent;
                }
            }
            return one;
        }

        int firstWithRowOf(int wanted) {
            for (int number = 0; number < wanted; number++) {
                if (slot(number).hasRowOf(slot(wanted))) {
                    return number;
                }
            }
            return wanted;
        }

        int greatestCostOnWay(int last) {
            int greatest = 0;
            int number = last;
            for (int i = 0; i < MAX_VERSIONS && number != NONE; i++) {
                greatest = Math.max(greatest, slot(number).cost);
                number = slot(number).parent;
            }
            return greatest;
        }

        int sumOfCostsOnWay(int last) {
            int sum = 0;
            int number = last;
            for (int i = 0; i < MAX_VERSIONS && number != NONE; i++) {
                sum += slot(number).cost;
                number = slot(number).parent;
            }
            return sum;
        }
    }

    /** The text, and the acts that were read from it last. */
    private static final class Script {
        private static final int START = 0;
        private static final int AFTER_LETTER = 1;
        private static final int AFTER_MINUS = 2;
        private static final int ONE_DIGIT = 3;
        private static final int COMPLETE = 5;
        private static final int WRONG = -1;

        int length = 0;
        int acts = 0;
        private final int[] bytes = new int[MAX_TEXT];
        private final int[] kinds = new int[MAX_TEXT_ACTS];
        private final int[] values = new int[MAX_TEXT_ACTS];
        private int kind = PUSH_FRONT;
        private boolean negative = false;
        private int number = 0;

        Script() {
        }

        void extend(int value) {
            fill(bytes, length, value);
            length++;
        }

        int actAt(int place) {
            return cell(kinds, place);
        }

        int valueAt(int place) {
            return cell(values, place);
        }

        /** Reads the acts; returns the syntax error position, or NONE. */
        int read() {
            acts = 0;
            int stage = START;
            for (int place = 0; place < length; place++) {
                stage = next(stage, cell(bytes, place));
                if (stage == WRONG) {
                    return place;
                }
            }
            return stage == START ? NONE : length;
        }

        private int next(int stage, int sign) {
            if (stage == START) {
                return begin(sign);
            }
            if (sign == '-' && stage == AFTER_LETTER) {
                negative = true;
                return AFTER_MINUS;
            }
            if (sign >= '0' && sign <= '9' && stage < COMPLETE) {
                number = number * 10 + (sign - '0');
                return stage < ONE_DIGIT ? ONE_DIGIT : stage + 1;
            }
            if (sign == ';' && stage >= ONE_DIGIT) {
                end();
                return START;
            }
            return WRONG;
        }

        private int begin(int sign) {
            negative = false;
            number = 0;
            switch (sign) {
                case 'f':
                    kind = PUSH_FRONT;
                    return AFTER_LETTER;
                case 'b':
                    kind = PUSH_BACK;
                    return AFTER_LETTER;
                case 'x':
                    kind = POP_FRONT;
                    return COMPLETE;
                case 'y':
                    kind = POP_BACK;
                    return COMPLETE;
                default:
                    return WRONG;
            }
        }

        private void end() {
            fill(kinds, acts, kind);
            fill(values, acts, negative ? -number : number);
            acts++;
        }
    }

    /** Runs the text on one row of its own, so that asking makes no versions. */
    private static final class Trial {
        int stalled = 0;
        int greatestCost = 0;
        private final Version row = new Version();

        Trial() {
        }

        void play(Script script, State state, int start, int rate) {
            stalled = 0;
            greatestCost = 0;
            row.copyFrom(state.slot(start));
            int most = Math.min(script.acts, state.left());
            for (int i = 0; i < most && row.permits(script.actAt(i)); i++) {
                row.perform(script.actAt(i), script.valueAt(i), rate, state.ratio);
                if (row.extra > 0) {
                    stalled++;
                }
                greatestCost = Math.max(greatestCost, row.cost);
            }
        }
    }
}
