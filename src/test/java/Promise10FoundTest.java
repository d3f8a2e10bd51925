public final class Promise10FoundTest {
    public static void main(String[] args) {
        Checks checks = new Checks();
        numberAndValue(checks);
        whatJustOutside(checks);
        placesJustOutside(checks);
        tenFound(checks);
        nothingFound(checks);
        farOff(checks);
        refusedBeforeNone(checks);
        liveNow(checks);
        liveAgainByAnother(checks);
        keptWhenItsDocumentGoes(checks);
        onlyTheLatest(checks);
        theLatestThatWasNotRefused(checks);
        nothingFoundByTheLatest(checks);
        checks.end();
    }

    /** 0 and 10, at DISTANCE 0 and 100. */
    private static NearDesk two() {
        NearDesk desk = Desks.line(0, 10, 20);
        desk.exact(2);
        return desk;
    }

    private static void numberAndValue(Checks checks) {
        NearDesk desk = two();
        checks.same("found(0, 0)", desk.found(0, 0), 0);
        checks.same("found(0, 1)", desk.found(0, 1), 0);
        checks.same("found(1, 0)", desk.found(1, 0), 1);
        checks.same("found(1, 1)", desk.found(1, 1), 100);
    }

    /** "REFUSED for another what": 0, 1 and 2 are as said. */
    private static void whatJustOutside(Checks checks) {
        NearDesk desk = two();
        checks.same("found(1, -1)", desk.found(1, -1), NearDesk.REFUSED);
        checks.same("found(1, 0)", desk.found(1, 0), 1);
        checks.same("found(1, 2)", desk.found(1, 2), 1);
        checks.same("found(1, 3)", desk.found(1, 3), NearDesk.REFUSED);
    }

    /** "NONE if there is none such" */
    private static void placesJustOutside(Checks checks) {
        NearDesk desk = two();
        for (int what = 0; what < 3; what++) {
            checks.same("found(-1, " + what + ")", desk.found(-1, what), NearDesk.NONE);
            checks.same("found(2, " + what + ")", desk.found(2, what), NearDesk.NONE);
        }
    }

    private static void tenFound(Checks checks) {
        NearDesk desk = Desks.evenLine(11, 9);
        desk.exact(10);
        checks.same("found(9, 0)", desk.found(9, 0), 9);
        checks.same("found(9, 1)", desk.found(9, 1), 81 * 81);
        checks.same("found(9, 2)", desk.found(9, 2), 1);
        checks.same("found(10, 0)", desk.found(10, 0), NearDesk.NONE);
    }

    private static void nothingFound(Checks checks) {
        NearDesk desk = Desks.line(0, 10, 20);
        for (int what = 0; what < 3; what++) {
            checks.same("found(0, " + what + ")", desk.found(0, what), NearDesk.NONE);
        }
    }

    private static void farOff(Checks checks) {
        NearDesk desk = two();
        for (int far : Desks.FAR_OFF) {
            checks.same("found(" + far + ", 0)", desk.found(far, 0), NearDesk.NONE);
            checks.same("found(0, " + far + ")", desk.found(0, far), NearDesk.REFUSED);
        }
    }

    private static void refusedBeforeNone(Checks checks) {
        checks.same("found(2, 3)", two().found(2, 3), NearDesk.REFUSED);
        checks.same("found(-1, -1)", two().found(-1, -1), NearDesk.REFUSED);
        checks.same("found(0, 3) of nothing", new NearDesk().found(0, 3), NearDesk.REFUSED);
    }

    /** "2: 1 if a LIVE DOCUMENT has that number now, else 0" */
    private static void liveNow(Checks checks) {
        NearDesk desk = two();
        checks.same("found(1, 2)", desk.found(1, 2), 1);
        desk.remove(1);
        checks.same("found(1, 2), removed", desk.found(1, 2), 0);
        checks.same("found(0, 2), the other", desk.found(0, 2), 1);
        desk.renew();
        checks.same("found(1, 2), renewed", desk.found(1, 2), 0);
    }

    private static void liveAgainByAnother(Checks checks) {
        NearDesk desk = two();
        desk.remove(1);
        desk.renew();
        desk.put(77, 0, 0, 0, 0);
        checks.same("found(1, 2), put anew", desk.found(1, 2), 1);
        checks.same("found(1, 1), put anew", desk.found(1, 1), 100);
    }

    private static void keptWhenItsDocumentGoes(Checks checks) {
        NearDesk desk = two();
        desk.remove(1);
        checks.found("after remove", desk, 0, 0, 1, 100);
        desk.renew();
        checks.found("after renew", desk, 0, 0, 1, 100);
        desk.put(77, 0, 0, 0, 0);
        checks.found("after put", desk, 0, 0, 1, 100);
        desk.ask(50, 0, 0, 0);
        checks.found("after ask", desk, 0, 0, 1, 100);
        checks.same("count(7)", desk.count(7), 1);
        checks.found("after count(7)", desk, 0, 0, 1, 100);
    }

    /** "Of what the latest near, exact, match or fuse FOUND" */
    private static void onlyTheLatest(Checks checks) {
        NearDesk desk = new NearDesk();
        desk.put(3, 0, 0, 0, 0);
        desk.put(5, 0, 0, 0, 7);
        desk.near(2, 2);
        checks.found("near", desk, 0, 9, 1, 25);
        desk.match(2, 1);
        checks.found("match", desk, 1, 87 * 3);
        desk.exact(1);
        checks.found("exact", desk, 0, 9);
        desk.fuse(2, 1);
        checks.found("fuse", desk, 1, 190, 0, 100);
    }

    private static void theLatestThatWasNotRefused(Checks checks) {
        NearDesk desk = two();
        desk.near(11, 1);
        desk.exact(0);
        desk.match(1, 256);
        desk.fuse(1, -1);
        checks.found("after four REFUSED", desk, 0, 0, 1, 100);
    }

    private static void nothingFoundByTheLatest(Checks checks) {
        NearDesk desk = two();
        checks.same("match(2, 0)", desk.match(2, 0), 0);
        checks.found("match(2, 0)", desk);
        checks.same("found(0, 2)", desk.found(0, 2), NearDesk.NONE);
    }
}
