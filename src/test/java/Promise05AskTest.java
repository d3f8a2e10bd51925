public final class Promise05AskTest {
    public static void main(String[] args) {
        Checks checks = new Checks();
        askedFromNowOn(checks);
        leastAndGreatest(checks);
        justOutside(checks);
        farOff(checks);
        falseChangesNothing(checks);
        foundStays(checks);
        theLatestCounts(checks);
        checks.end();
    }

    private static boolean askWith(NearDesk desk, int at, int number) {
        int[] v = {5, 5, 5, 5};
        v[at] = number;
        return desk.ask(v[0], v[1], v[2], v[3]);
    }

    private static NearDesk one() {
        NearDesk desk = new NearDesk();
        desk.put(10, 20, 30, 40, 0);
        return desk;
    }

    private static void askedFromNowOn(Checks checks) {
        NearDesk desk = one();
        checks.same("ask", desk.ask(11, 22, 33, 44), true);
        desk.exact(1);
        checks.found("exact(1)", desk, 0, 1 + 4 + 9 + 16);
        desk.near(1, 1);
        checks.found("near(1, 1)", desk, 0, 1 + 4 + 9 + 16);
    }

    private static void leastAndGreatest(Checks checks) {
        NearDesk desk = one();
        checks.same("ask(0, 0, 0, 0)", desk.ask(0, 0, 0, 0), true);
        desk.exact(1);
        checks.found("least", desk, 0, 100 + 400 + 900 + 1600);
        checks.same("ask(99, 99, 99, 99)", desk.ask(99, 99, 99, 99), true);
        desk.exact(1);
        checks.found("greatest", desk, 0, 89 * 89 + 79 * 79 + 69 * 69 + 59 * 59);
    }

    /** "false, changing nothing, if one is not 0 to 99" */
    private static void justOutside(Checks checks) {
        for (int at = 0; at < 4; at++) {
            checks.same("one less, at " + at, askWith(one(), at, -1), false);
            checks.same("least, at " + at, askWith(one(), at, 0), true);
            checks.same("greatest, at " + at, askWith(one(), at, 99), true);
            checks.same("one more, at " + at, askWith(one(), at, 100), false);
        }
    }

    private static void farOff(Checks checks) {
        for (int at = 0; at < 4; at++) {
            for (int far : Desks.FAR_OFF) {
                checks.same("far off, at " + at, askWith(one(), at, far), false);
            }
        }
    }

    private static void falseChangesNothing(Checks checks) {
        for (int at = 0; at < 4; at++) {
            NearDesk desk = one();
            desk.ask(10, 20, 30, 40);
            askWith(desk, at, -1);
            askWith(desk, at, 100);
            desk.exact(1);
            checks.found("after false, at " + at, desk, 0, 0);
        }
    }

    private static void foundStays(Checks checks) {
        NearDesk desk = one();
        desk.ask(11, 20, 30, 40);
        desk.exact(1);
        desk.ask(0, 99, 0, 99);
        checks.found("the FOUND of before", desk, 0, 1);
    }

    private static void theLatestCounts(Checks checks) {
        NearDesk desk = one();
        desk.ask(1, 1, 1, 1);
        desk.ask(10, 20, 30, 40);
        desk.ask(10, 20, 30, 43);
        desk.near(1, 1);
        checks.found("near(1, 1)", desk, 0, 9);
    }
}
