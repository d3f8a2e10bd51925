/** Counts the answers that are not the ones due, and ends a test with exit code 1 if there were any. */
final class Checks {
    private int done;
    private int wrong;

    void same(String call, long got, long due) {
        done++;
        if (got != due) {
            wrong++;
            System.out.println(call + " answered " + got + ", due is " + due);
        }
    }

    void same(String call, boolean got, boolean due) {
        same(call, got ? 1 : 0, due ? 1 : 0);
    }

    void same(String call, String got, String due) {
        done++;
        if (!got.equals(due)) {
            wrong++;
            System.out.println(call + " answered " + got + ", due is " + due);
        }
    }

    void isTrue(String claim, boolean holds) {
        done++;
        if (!holds) {
            wrong++;
            System.out.println("does not hold: " + claim);
        }
    }

    /** The numbers FOUND, each followed by its VALUE, and nothing behind them. */
    void found(String call, NearDesk desk, int... numbersAndValues) {
        int many = numbersAndValues.length / 2;
        same(call + ": count(6)", desk.count(6), many);
        for (int i = 0; i < many; i++) {
            same(call + ": found(" + i + ", 0)", desk.found(i, 0), numbersAndValues[2 * i]);
            same(call + ": found(" + i + ", 1)", desk.found(i, 1), numbersAndValues[2 * i + 1]);
        }
        same(call + ": found(" + many + ", 0)", desk.found(many, 0), NearDesk.NONE);
    }

    /** The row of NEIGHBOURS, and nothing behind it. */
    void row(NearDesk desk, int n, int layer, int... due) {
        same("node(" + n + ", " + (10 + layer) + ")", desk.node(n, 10 + layer), due.length);
        for (int i = 0; i < due.length; i++) {
            same("neighbour(" + n + ", " + layer + ", " + i + ")", desk.neighbour(n, layer, i), due[i]);
        }
        same("neighbour(" + n + ", " + layer + ", " + due.length + ")",
                desk.neighbour(n, layer, due.length), NearDesk.NONE);
    }

    void end() {
        System.out.println(done + " answers looked at, " + wrong + " not as due");
        if (wrong > 0 || done == 0) {
            System.exit(1);
        }
    }
}
