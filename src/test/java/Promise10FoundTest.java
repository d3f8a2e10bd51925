public final class Promise10FoundTest {
    public static void main(String[] args) {
        Checks checks = new Checks();
        NearDesk desk = Desks.line(0, 10, 20);
        desk.exact(2);
        checks.found("exact(2)", desk, 0, 0, 1, 100);
        checks.same("found(0, 2)", desk.found(0, 2), 1);
        checks.same("found(-1, 0)", desk.found(-1, 0), NearDesk.NONE);
        checks.same("found(2, 1)", desk.found(2, 1), NearDesk.NONE);
        checks.same("found(2, 2)", desk.found(2, 2), NearDesk.NONE);
        checks.same("found(0, 3)", desk.found(0, 3), NearDesk.REFUSED);
        checks.same("found(0, -1)", desk.found(0, -1), NearDesk.REFUSED);
        checks.same("REFUSED before NONE", desk.found(9, 3), NearDesk.REFUSED);
        for (int far : Desks.FAR_OFF) {
            checks.same("found(" + far + ", 0)", desk.found(far, 0), NearDesk.NONE);
            checks.same("found(0, " + far + ")", desk.found(0, far), NearDesk.REFUSED);
        }
        keptWhenItsDocumentGoes(checks);
        onlyTheLatest(checks);
        checks.end();
    }

    private static void keptWhenItsDocumentGoes(Checks checks) {
        NearDesk desk = Desks.line(0, 10, 20);
        desk.exact(2);
        desk.remove(1);
        checks.found("after remove", desk, 0, 0, 1, 100);
        checks.same("found(1, 2) after remove", desk.found(1, 2), 0);
        desk.renew();
        checks.found("after renew", desk, 0, 0, 1, 100);
        checks.same("found(1, 2) after renew", desk.found(1, 2), 0);
        desk.put(77, 0, 0, 0, 0);
        checks.found("after put", desk, 0, 0, 1, 100);
        checks.same("found(1, 2) after put", desk.found(1, 2), 1);
        desk.ask(50, 0, 0, 0);
        checks.found("after ask", desk, 0, 0, 1, 100);
    }

    private static void onlyTheLatest(Checks checks) {
        NearDesk desk = new NearDesk();
        desk.put(3, 0, 0, 0, 0);
        desk.put(5, 0, 0, 0, 7);
        desk.near(2, 2);
        checks.found("near", desk, 0, 9, 1, 25);
        desk.match(2, 1);
        checks.found("match", desk, 1, 87 * 3);
        desk.exact(1);
        checks.found("exact", desk, 0, 9);
        desk.fuse(2, 1);
        checks.found("fuse", desk, 1, 190, 0, 100);
        desk.match(2, 0);
        checks.found("match of nothing", desk);
    }
}
