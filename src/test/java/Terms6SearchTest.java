/** The SEARCH of the GRAPH. */
public final class Terms6SearchTest {
    public static void main(String[] args) {
        Checks checks = new Checks();
        withoutNodes(checks);
        withoutNodesAfterRenew(checks);
        withoutLayersAbove(checks);
        fromTopDown(checks);
        noneIsLive(checks);
        theWidthCountsRemovedOnes(checks);
        throughRemovedOnes(checks);
        whatNoRowLeadsTo(checks);
        checks.end();
    }

    /** "(Without NODES it gives nothing.)" */
    private static void withoutNodes(Checks checks) {
        NearDesk desk = new NearDesk();
        checks.same("near(1, 1)", desk.near(1, 1), 0);
        checks.same("near(10, 10)", desk.near(10, 10), 0);
        checks.same("fuse(10, 255)", desk.fuse(10, 255), 0);
        checks.same("count(4)", desk.count(4), 0);
        checks.same("count(6)", desk.count(6), 0);
    }

    private static void withoutNodesAfterRenew(Checks checks) {
        NearDesk desk = Desks.line(5, 6, 7);
        desk.near(2, 2);
        int seen = desk.count(4);
        for (int n = 0; n < 3; n++) {
            desk.remove(n);
        }
        desk.renew();
        checks.same("near(2, 2)", desk.near(2, 2), 0);
        checks.same("count(4)", desk.count(4), seen);
        checks.found("near(2, 2)", desk);
    }

    /** With TOP 0 there is the WALK in LAYER 0 alone. */
    private static void withoutLayersAbove(Checks checks) {
        NearDesk desk = Desks.line(5, 6);
        checks.same("near(2, 2)", desk.near(2, 2), 2);
        checks.found("near(2, 2)", desk, 0, 25, 1, 36);
        checks.same("count(4)", desk.count(4), 2);
    }

    /** LAYER 3: 26. LAYER 2: 26, 17, 8. LAYER 1: from 8 to 2. LAYER 0: from 2 to 0. */
    private static void fromTopDown(Checks checks) {
        NearDesk desk = Desks.evenLine(27, 3);
        checks.row(desk, 8, 1, 5, 11, 2);
        checks.row(desk, 2, 1, 5, 8, 11);
        desk.near(1, 1);
        checks.found("near(1, 1)", desk, 0, 0);
        // LAYER 1: 8, then 5, 11 and 2, which has no other; LAYER 0: 2, then 1, 0, 3, 4, 5
        checks.same("count(4)", desk.count(4), 1 + 3 + 4 + 6);
    }

    /** "it gives the LIVE ones": none, but the NODES are SEEN. */
    private static void noneIsLive(Checks checks) {
        NearDesk desk = Desks.line(0, 10, 20);
        desk.exact(2);
        for (int n = 0; n < 3; n++) {
            desk.remove(n);
        }
        checks.same("near(10, 10)", desk.near(10, 10), 0);
        checks.found("near(10, 10)", desk);
        checks.same("count(4)", desk.count(4), 1 + 3);
    }

    /** Those that are not LIVE are HELD, too; they are left out of what the WALK gives. */
    private static void theWidthCountsRemovedOnes(Checks checks) {
        NearDesk desk = Desks.line(0, 10, 20);
        desk.ask(10, 0, 0, 0);
        desk.remove(1);
        checks.same("near(1, 1)", desk.near(1, 1), 0);
        checks.found("near(1, 1)", desk);
        checks.same("near(1, 2)", desk.near(1, 2), 1);
        checks.found("near(1, 2)", desk, 0, 100);
        checks.same("near(1, 3)", desk.near(1, 3), 1);
        checks.same("near(2, 3)", desk.near(2, 3), 2);
        checks.found("near(2, 3)", desk, 0, 100, 2, 100);
    }

    /** All but the first and the last are removed: the ENTRY, too, and what leads from it. */
    private static void throughRemovedOnes(Checks checks) {
        NearDesk desk = Desks.evenLine(10, 10);
        for (int n = 1; n < 9; n++) {
            desk.remove(n);
        }
        checks.same("near(1, 1)", desk.near(1, 1), 1);
        checks.found("near(1, 1)", desk, 0, 0);
        desk.ask(90, 0, 0, 0);
        checks.same("near(1, 1)", desk.near(1, 1), 1);
        checks.found("near(1, 1)", desk, 9, 0);
    }

    /** All in one place: no row that one comes to has 7 to 11. */
    private static void whatNoRowLeadsTo(Checks checks) {
        NearDesk desk = Desks.onePlace(12);
        checks.same("near(10, 10)", desk.near(10, 10), 7);
        checks.found("near(10, 10)", desk, 0, 4, 1, 4, 2, 4, 3, 4, 4, 4, 5, 4, 6, 4);
        checks.same("exact(10)", desk.exact(10), 10);
    }
}
