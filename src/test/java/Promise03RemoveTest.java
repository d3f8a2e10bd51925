public final class Promise03RemoveTest {
    public static void main(String[] args) {
        Checks checks = new Checks();
        liveNoMore(checks);
        onlyOnce(checks);
        neverPut(checks);
        outsideTheNumbers(checks);
        leastAndGreatestNumber(checks);
        ofNone(checks);
        theOnlyOne(checks);
        theEntry(checks);
        rowsStay(checks);
        goneAfterRenew(checks);
        inNoResultsAnyMore(checks);
        checks.end();
    }

    private static void liveNoMore(Checks checks) {
        NearDesk desk = Desks.line(0, 10, 20);
        checks.same("remove(1)", desk.remove(1), true);
        checks.same("count(0)", desk.count(0), 3);
        checks.same("count(1)", desk.count(1), 2);
        checks.same("node(0, 2)", desk.node(0, 2), 1);
        checks.same("node(1, 2)", desk.node(1, 2), 0);
        checks.same("node(2, 2)", desk.node(2, 2), 1);
    }

    /** "false if there is none such": it is LIVE no more. */
    private static void onlyOnce(Checks checks) {
        NearDesk desk = Desks.line(0, 10, 20);
        desk.remove(1);
        checks.same("remove(1) again", desk.remove(1), false);
        checks.same("count(1)", desk.count(1), 2);
    }

    private static void neverPut(Checks checks) {
        NearDesk desk = Desks.line(0, 10, 20);
        for (int n = 3; n < 30; n++) {
            checks.same("remove(" + n + ")", desk.remove(n), false);
        }
        checks.same("count(1)", desk.count(1), 3);
    }

    /** Numbers whose bits or places would be those of a LIVE DOCUMENT are none, either. */
    private static void outsideTheNumbers(Checks checks) {
        NearDesk desk = Desks.full();
        for (int n : new int[] {-1, 30, 31, 32, 33, 61, 64, -32, -31, 1 << 5, 1 << 31}) {
            checks.same("remove(" + n + ")", desk.remove(n), false);
        }
        for (int far : Desks.FAR_OFF) {
            checks.same("remove(" + far + ")", desk.remove(far), false);
        }
        checks.same("count(1)", desk.count(1), 30);
    }

    private static void leastAndGreatestNumber(Checks checks) {
        NearDesk desk = Desks.full();
        checks.same("remove(0)", desk.remove(0), true);
        checks.same("remove(29)", desk.remove(29), true);
        checks.same("node(0, 2)", desk.node(0, 2), 0);
        checks.same("node(1, 2)", desk.node(1, 2), 1);
        checks.same("node(28, 2)", desk.node(28, 2), 1);
        checks.same("node(29, 2)", desk.node(29, 2), 0);
        checks.same("count(0)", desk.count(0), 30);
        checks.same("count(1)", desk.count(1), 28);
    }

    private static void ofNone(Checks checks) {
        checks.same("remove(0) of none", new NearDesk().remove(0), false);
    }

    private static void theOnlyOne(Checks checks) {
        NearDesk desk = Desks.line(5);
        checks.same("remove(0)", desk.remove(0), true);
        checks.same("count(0)", desk.count(0), 1);
        checks.same("count(1)", desk.count(1), 0);
        checks.same("count(2)", desk.count(2), 0);
        checks.same("put", desk.put(6, 0, 0, 0, 0), 1);
        checks.row(desk, 1, 0, 0);
    }

    private static void theEntry(Checks checks) {
        NearDesk desk = Desks.line(0, 10, 20);
        desk.remove(2);
        checks.same("count(2)", desk.count(2), 2);
        checks.same("count(3)", desk.count(3), 1);
    }

    private static void rowsStay(Checks checks) {
        NearDesk desk = Desks.line(0, 10, 20);
        desk.remove(1);
        checks.row(desk, 0, 0, 1, 2);
        checks.row(desk, 1, 0, 0, 2);
        checks.row(desk, 2, 0, 1, 0);
    }

    private static void goneAfterRenew(Checks checks) {
        NearDesk desk = Desks.line(0, 10, 20);
        desk.remove(0);
        desk.renew();
        checks.same("remove(0) after renew", desk.remove(0), false);
        desk.put(5, 0, 0, 0, 0);
        checks.same("remove(0) put anew", desk.remove(0), true);
    }

    private static void inNoResultsAnyMore(Checks checks) {
        NearDesk desk = new NearDesk();
        desk.put(0, 0, 0, 0, 1);
        desk.put(10, 0, 0, 0, 1);
        desk.remove(0);
        desk.near(10, 10);
        checks.found("near", desk, 1, 100);
        desk.exact(10);
        checks.found("exact", desk, 1, 100);
        desk.match(10, 1);
        checks.found("match", desk, 1, 50 * 2);
        desk.fuse(10, 1);
        checks.found("fuse", desk, 1, 200);
    }
}
