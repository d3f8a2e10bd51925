public final class Promise03RemoveTest {
    public static void main(String[] args) {
        Checks checks = new Checks();
        NearDesk desk = Desks.line(0, 10, 20);
        checks.same("remove(1)", desk.remove(1), true);
        checks.same("remove(1) again", desk.remove(1), false);
        checks.same("count(0)", desk.count(0), 3);
        checks.same("count(1)", desk.count(1), 2);
        checks.same("node(1, 2)", desk.node(1, 2), 0);
        checks.row(desk, 0, 0, 1, 2);
        checks.row(desk, 1, 0, 0, 2);
        theEntryStays(checks);
        noSuchDocument(checks);
        goneAfterRenew(checks);
        linkedAllTheSame(checks);
        checks.end();
    }

    private static void theEntryStays(Checks checks) {
        NearDesk desk = Desks.line(0, 10, 20);
        desk.remove(2);
        checks.same("count(2)", desk.count(2), 2);
        checks.same("count(3)", desk.count(3), 1);
    }

    private static void noSuchDocument(Checks checks) {
        NearDesk desk = Desks.line(0, 10, 20);
        checks.same("remove(3)", desk.remove(3), false);
        checks.same("remove(-1)", desk.remove(-1), false);
        checks.same("remove(30)", desk.remove(30), false);
        checks.same("remove(32)", desk.remove(32), false);
        for (int far : Desks.FAR_OFF) {
            checks.same("remove(" + far + ")", desk.remove(far), false);
        }
        checks.same("count(1)", desk.count(1), 3);
    }

    private static void goneAfterRenew(Checks checks) {
        NearDesk desk = Desks.line(0, 10, 20);
        desk.remove(0);
        desk.renew();
        checks.same("remove(0) after renew", desk.remove(0), false);
        desk.put(5, 0, 0, 0, 0);
        checks.same("remove(0) put anew", desk.remove(0), true);
    }

    private static void linkedAllTheSame(Checks checks) {
        NearDesk desk = Desks.line(0, 10, 20);
        desk.remove(1);
        desk.put(11, 0, 0, 0, 0);
        checks.row(desk, 3, 0, 1, 2, 0);
    }
}
