public final class Promise07ExactTest {
    public static void main(String[] args) {
        Checks checks = new Checks();
        nearestFirst(checks);
        leastAndGreatestNumber(checks);
        kJustOutside(checks);
        farOff(checks);
        allIfThereAreFewer(checks);
        asManyAsK(checks);
        sameDistanceAtTheEdge(checks);
        onlyLiveOnes(checks);
        noneToFind(checks);
        theGraphIsNotAsked(checks);
        refusedChangesNothing(checks);
        checks.end();
    }

    private static NearDesk five() {
        NearDesk desk = Desks.line(30, 10, 20, 10, 40);
        desk.ask(20, 0, 0, 0);
        return desk;
    }

    private static void nearestFirst(Checks checks) {
        NearDesk desk = five();
        checks.same("exact(5)", desk.exact(5), 5);
        checks.found("exact(5)", desk, 2, 0, 0, 100, 1, 100, 3, 100, 4, 400);
    }

    private static void leastAndGreatestNumber(Checks checks) {
        NearDesk desk = Desks.evenLine(30, 3);
        desk.exact(1);
        checks.found("at the beginning", desk, 0, 0);
        desk.ask(99, 0, 0, 0);
        desk.exact(1);
        checks.found("at the end", desk, 29, 144);
    }

    /** "k (1 to 10)", "REFUSED for another k" */
    private static void kJustOutside(Checks checks) {
        NearDesk desk = Desks.full();
        checks.same("exact(-1)", desk.exact(-1), NearDesk.REFUSED);
        checks.same("exact(0)", desk.exact(0), NearDesk.REFUSED);
        checks.same("exact(1)", desk.exact(1), 1);
        checks.same("exact(10)", desk.exact(10), 10);
        checks.same("exact(11)", desk.exact(11), NearDesk.REFUSED);
    }

    private static void farOff(Checks checks) {
        for (int far : Desks.FAR_OFF) {
            checks.same("exact(" + far + ")", five().exact(far), NearDesk.REFUSED);
        }
    }

    /** "how many (all, if there are fewer)" */
    private static void allIfThereAreFewer(Checks checks) {
        checks.same("exact(10) of five", five().exact(10), 5);
        checks.same("exact(6) of five", five().exact(6), 5);
        checks.same("exact(10) of nine", Desks.evenLine(9, 10).exact(10), 9);
    }

    private static void asManyAsK(Checks checks) {
        NearDesk ten = Desks.evenLine(10, 10);
        checks.same("exact(10) of ten", ten.exact(10), 10);
        checks.same("the tenth", ten.found(9, 0), 9);
        NearDesk eleven = Desks.evenLine(11, 9);
        eleven.ask(99, 0, 0, 0);
        checks.same("exact(10) of eleven", eleven.exact(10), 10);
        checks.same("the first", eleven.found(0, 0), 10);
        checks.same("the tenth", eleven.found(9, 0), 1);
    }

    private static void sameDistanceAtTheEdge(Checks checks) {
        NearDesk desk = five();
        desk.exact(2);
        checks.found("exact(2)", desk, 2, 0, 0, 100);
        desk.exact(3);
        checks.found("exact(3)", desk, 2, 0, 0, 100, 1, 100);
    }

    private static void onlyLiveOnes(Checks checks) {
        NearDesk desk = five();
        desk.remove(2);
        desk.remove(0);
        checks.same("exact(2)", desk.exact(2), 2);
        checks.found("exact(2)", desk, 1, 100, 3, 100);
        checks.same("exact(10)", desk.exact(10), 3);
    }

    private static void noneToFind(Checks checks) {
        checks.same("exact(1) of none", new NearDesk().exact(1), 0);
        NearDesk desk = Desks.line(5);
        desk.exact(1);
        desk.remove(0);
        checks.same("exact(1), none LIVE", desk.exact(1), 0);
        checks.found("nothing any more", desk);
    }

    /** "(The GRAPH is not asked.)": none is SEEN, and what no row leads to is FOUND. */
    private static void theGraphIsNotAsked(Checks checks) {
        NearDesk desk = Desks.onePlace(12);
        for (int n = 0; n < 7; n++) {
            desk.remove(n);
        }
        checks.same("near(10, 10)", desk.near(10, 10), 0);
        int seen = desk.count(4);
        checks.same("exact(10)", desk.exact(10), 5);
        checks.found("exact(10)", desk, 7, 4, 8, 4, 9, 4, 10, 4, 11, 4);
        checks.same("count(4)", desk.count(4), seen);
    }

    private static void refusedChangesNothing(Checks checks) {
        NearDesk desk = five();
        desk.exact(1);
        desk.exact(0);
        desk.exact(11);
        checks.found("after REFUSED", desk, 2, 0);
    }
}
