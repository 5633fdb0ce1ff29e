/** Long runs of calls, each answer compared with the model's; the calls come from a seed, so all runs stay the same. */
public final class ModelTest {
    private static final int RUNS = 1200;
    private static final int CALLS = 512;
    private static final int[] ODD = {-1, Integer.MIN_VALUE, Integer.MAX_VALUE, 10, 40, 100, 128, 1000, -1000};

    private static final Checks checks = new Checks("ModelTest");

    private final EndVersions rows = new EndVersions();
    private final Model model = new Model();
    private final int run;
    private final int habit;
    private long seed;

    private ModelTest(int run) {
        this.run = run;
        this.habit = run % 6;
        this.seed = run * 7919L + 17;
    }

    public static void main(String[] arguments) {
        for (int run = 0; run < RUNS; run++) {
            new ModelTest(run).play();
        }
        checks.end();
    }

    private int draw(int bound) {
        seed = seed * 6364136223846793005L + 1442695040888963407L;
        return (int) ((seed >>> 33) % bound);
    }

    private void play() {
        if (habit == 4) {
            // Debts that last and acts that come in rows bring goals down to 0 beside a part of more than one.
            compare("run " + run + ", rate 1", () -> rows.set(0, 1), () -> model.set(0, 1));
            compare("run " + run + ", ratio 2", () -> rows.set(1, 2), () -> model.set(1, 2));
        }
        for (int call = 0; call < CALLS; call++) {
            String what = "run " + run + ", call " + call;
            if (call % 8 == 7) {
                compare(what + ", digest", rows::digest, model::digest);
            } else {
                compareOne(what);
            }
        }
    }

    private static void compare(String what, Checks.Call got, Checks.Call due) {
        String dueOutcome = Checks.outcome(due);
        checks.equal(what, Checks.outcome(got), dueOutcome);
    }

    private int anyVersion() {
        if (draw(25) == 0) {
            return ODD[draw(ODD.length)];
        }
        int held = model.count(0);
        return draw(3) > 0 ? held - 1 : draw(held + (draw(10) == 0 ? 1 : 0));
    }

    private int anyOf(int bound) {
        return draw(20) == 0 ? ODD[draw(ODD.length)] : draw(bound);
    }

    private boolean anyEnd() {
        return habit == 1 ? draw(12) > 0 : habit == 2 ? draw(12) == 0 : draw(2) == 0;
    }

    private void compareOne(String what) {
        int kind = draw(100);
        if (kind < 42) {
            compareAct(what, kind);
        } else if (kind < 66) {
            compareText(what, kind - 42);
        } else {
            compareLook(what, kind - 66);
        }
    }

    private void compareAct(String what, int kind) {
        int version = anyVersion();
        boolean front = anyEnd();
        int pushes = habit == 3 ? 34 : habit == 4 ? 14 : 22;
        if (kind < pushes) {
            int value = draw(15) == 0 ? ODD[draw(ODD.length)] : draw(10) == 0 ? draw(1999) - 999 : draw(3);
            compare(what + ", push", () -> rows.push(version, value, front), () -> model.push(version, value, front));
        } else if (kind < 36) {
            compare(what + ", pop", () -> rows.pop(version, front), () -> model.pop(version, front));
        } else if (kind < 38) {
            int setting = anyOf(2);
            int value = draw(11);
            compare(what + ", set", () -> rows.set(setting, value), () -> model.set(setting, value));
        } else if (kind < 40) {
            compare(what + ", undo", rows::undo, model::undo);
        } else if (kind < 41) {
            compare(what + ", drop", rows::drop, model::drop);
        } else if (draw(habit == 5 ? 2 : 6) == 0) {
            compare(what + ", clear", rows::clear, model::clear);
        }
    }

    private void compareText(String what, int kind) {
        int version = anyVersion();
        int rate = draw(12) == 0 ? anyOf(11) : 1 + draw(9);
        if (kind < 10) {
            appendSome(what);
        } else if (kind < 12) {
            compare(what + ", clearText", rows::clearText, model::clearText);
        } else if (kind < 14) {
            compare(what + ", run", () -> rows.run(version), () -> model.run(version));
        } else if (kind < 17) {
            compare(what + ", stalls", () -> rows.stalls(version, rate), () -> model.stalls(version, rate));
        } else if (kind < 20) {
            compare(what + ", worstWith", () -> rows.worstWith(version, rate), () -> model.worstWith(version, rate));
        } else {
            compare(what + ", leastRate", () -> rows.leastRate(version), () -> model.leastRate(version));
        }
    }

    private String anyAct() {
        int kind = draw(habit == 3 ? 5 : 8);
        String push = anyEnd() ? "f" : "b";
        if (kind < 3) {
            return push + draw(3) + ";";
        }
        if (kind == 3) {
            return push + "-" + draw(1000) + ";";
        }
        if (kind == 4) {
            return push + "00" + draw(10) + ";";
        }
        return anyEnd() ? "y;" : "x;";
    }

    private void appendSome(String what) {
        if (draw(40) == 0) {
            appendByte(what, draw(5) == 0 ? ODD[draw(ODD.length)] : draw(128));
            return;
        }
        if (draw(habit == 0 ? 6 : 25) == 0) {
            appendByte(what, "fbxy;-0123456789".charAt(draw(16)));
            return;
        }
        int acts = 1 + draw(8);
        for (int i = 0; i < acts; i++) {
            String act = anyAct().repeat(habit == 4 ? 1 + draw(9) : 1);
            for (int place = 0; place < act.length(); place++) {
                appendByte(what, act.charAt(place));
            }
        }
    }

    private void appendByte(String what, int value) {
        compare(what + ", append", () -> rows.append(value), () -> model.append(value));
    }

    private void compareLook(String what, int kind) {
        int a = anyVersion();
        int b = draw(2) == 0 ? anyVersion() : draw(model.count(0));
        int place = anyOf(a >= 0 && a < model.count(0) ? model.version(a, 1) + 1 : 3);
        if (kind < 7) {
            int fact = anyOf(11);
            compare(what + ", version", () -> rows.version(a, fact), () -> model.version(a, fact));
        } else if (kind < 11) {
            int number = anyOf(9);
            compare(what + ", count", () -> rows.count(number), () -> model.count(number));
        } else if (kind < 13) {
            compare(what + ", value", () -> rows.value(a), () -> model.value(a));
        } else if (kind < 17) {
            compare(what + ", at", () -> rows.at(a, place), () -> model.at(a, place));
        } else if (kind < 20) {
            compare(what + ", steps", () -> rows.steps(a, place), () -> model.steps(a, place));
        } else if (kind < 22) {
            compare(what + ", setting", () -> rows.setting(place), () -> model.setting(place));
        } else {
            comparePair(what, kind, a, b);
        }
    }

    private void comparePair(String what, int kind, int a, int b) {
        if (kind < 25) {
            compare(what + ", common", () -> rows.common(a, b), () -> model.common(a, b));
        } else if (kind < 28) {
            compare(what + ", same", () -> rows.same(a, b), () -> model.same(a, b));
        } else if (kind < 30) {
            compare(what + ", firstLike", () -> rows.firstLike(a), () -> model.firstLike(a));
        } else if (kind < 32) {
            compare(what + ", worst", () -> rows.worst(a), () -> model.worst(a));
        } else {
            compare(what + ", mean", () -> rows.mean(a), () -> model.mean(a));
        }
    }
}
