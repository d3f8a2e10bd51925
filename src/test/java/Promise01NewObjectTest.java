public final class Promise01NewObjectTest {
    public static void main(String[] args) {
        Checks checks = new Checks();
        constants(checks);
        noDocuments(checks);
        nothingFound(checks);
        zeroIsAsked(checks);
        eachAnswerOfEmptiness(checks);
        objectsShareNothing(checks);
        checks.end();
    }

    private static void constants(Checks checks) {
        checks.same("REFUSED", NearDesk.REFUSED, -1);
        checks.same("NONE", NearDesk.NONE, -2);
        checks.same("FULL", NearDesk.FULL, -3);
    }

    /** "No DOCUMENTS" */
    private static void noDocuments(Checks checks) {
        NearDesk desk = new NearDesk();
        int[] due = {0, 0, NearDesk.NONE, NearDesk.NONE, 0, 0, 0, 0, 0, 0};
        for (int what = 0; what < due.length; what++) {
            checks.same("count(" + what + ")", desk.count(what), due[what]);
        }
        for (int n = 0; n < 30; n++) {
            checks.same("node(" + n + ", 0)", desk.node(n, 0), NearDesk.NONE);
            checks.same("neighbour(" + n + ", 0, 0)", desk.neighbour(n, 0, 0), NearDesk.NONE);
            checks.same("remove(" + n + ")", desk.remove(n), false);
        }
    }

    /** "nothing FOUND" */
    private static void nothingFound(Checks checks) {
        NearDesk desk = new NearDesk();
        for (int what = 0; what < 3; what++) {
            checks.same("found(0, " + what + ")", desk.found(0, what), NearDesk.NONE);
        }
        checks.same("count(6)", desk.count(6), 0);
    }

    /** "the VECTOR ASKED is 0, 0, 0, 0" */
    private static void zeroIsAsked(Checks checks) {
        NearDesk desk = new NearDesk();
        desk.put(1, 2, 3, 4, 0);
        desk.exact(1);
        checks.found("exact(1)", desk, 0, 1 + 4 + 9 + 16);
        desk.near(1, 1);
        checks.found("near(1, 1)", desk, 0, 1 + 4 + 9 + 16);
    }

    private static void eachAnswerOfEmptiness(Checks checks) {
        NearDesk desk = new NearDesk();
        checks.same("renew()", desk.renew(), 0);
        checks.same("near(10, 10)", desk.near(10, 10), 0);
        checks.same("exact(10)", desk.exact(10), 0);
        checks.same("match(10, 255)", desk.match(10, 255), 0);
        checks.same("fuse(10, 255)", desk.fuse(10, 255), 0);
        checks.same("ask(0, 0, 0, 0)", desk.ask(0, 0, 0, 0), true);
        checks.same("put(0, 0, 0, 0, 0)", desk.put(0, 0, 0, 0, 0), 0);
    }

    private static void objectsShareNothing(Checks checks) {
        NearDesk first = Desks.line(1, 2, 3);
        first.ask(9, 9, 9, 9);
        first.near(2, 2);
        NearDesk second = new NearDesk();
        checks.same("count(0)", second.count(0), 0);
        checks.same("count(4)", second.count(4), 0);
        checks.same("count(5)", second.count(5), 0);
        checks.same("count(6)", second.count(6), 0);
        second.put(1, 0, 0, 0, 0);
        second.exact(1);
        checks.found("exact(1)", second, 0, 1);
        checks.same("count(0) of the first", first.count(0), 3);
        checks.same("count(6) of the first", first.count(6), 2);
    }
}
