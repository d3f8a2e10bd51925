public final class Promise04RenewTest {
    public static void main(String[] args) {
        Checks checks = new Checks();
        ofNone(checks);
        noneWent(checks);
        someWent(checks);
        allWent(checks);
        oneIsLeft(checks);
        thirtyStay(checks);
        theFirstOneIsTheFirstNodeAgain(checks);
        numbersDecideTheOrder(checks);
        rowsAreMadeAnew(checks);
        lostNeighboursComeBack(checks);
        foundAndAskedStay(checks);
        seenAddsUp(checks);
        vectorsAndCountsStay(checks);
        checks.end();
    }

    private static void ofNone(Checks checks) {
        NearDesk desk = new NearDesk();
        checks.same("renew() of none", desk.renew(), 0);
        checks.same("count(0)", desk.count(0), 0);
        checks.same("count(2)", desk.count(2), NearDesk.NONE);
    }

    private static void noneWent(Checks checks) {
        NearDesk desk = Desks.line(0, 10, 20);
        checks.same("renew()", desk.renew(), 0);
        checks.same("count(0)", desk.count(0), 3);
        checks.same("count(1)", desk.count(1), 3);
        checks.row(desk, 0, 0, 1, 2);
    }

    /** "Answers how many NODES went that were not LIVE." */
    private static void someWent(Checks checks) {
        NearDesk desk = Desks.line(60, 61, 30, 50, 0);
        desk.remove(0);
        desk.remove(4);
        checks.same("renew()", desk.renew(), 2);
        checks.same("renew() again", desk.renew(), 0);
        checks.same("count(0)", desk.count(0), 3);
        checks.same("count(1)", desk.count(1), 3);
        checks.same("node(0, 0)", desk.node(0, 0), NearDesk.NONE);
        checks.same("neighbour(0, 0, 0)", desk.neighbour(0, 0, 0), NearDesk.NONE);
        checks.same("node(4, 0)", desk.node(4, 0), NearDesk.NONE);
    }

    /** "without NODES at first", and none after that. */
    private static void allWent(Checks checks) {
        NearDesk desk = Desks.line(1, 2, 3);
        for (int n = 0; n < 3; n++) {
            desk.remove(n);
        }
        checks.same("renew()", desk.renew(), 3);
        checks.same("count(0)", desk.count(0), 0);
        checks.same("count(2)", desk.count(2), NearDesk.NONE);
        checks.same("count(3)", desk.count(3), NearDesk.NONE);
        checks.same("count(8)", desk.count(8), 0);
        checks.same("count(9)", desk.count(9), 0);
        checks.same("near(1, 1)", desk.near(1, 1), 0);
        checks.same("put", desk.put(1, 1, 1, 1, 1), 0);
        checks.same("count(2) then", desk.count(2), 0);
        checks.same("count(3) then", desk.count(3), 0);
        checks.same("node(0, 1) then", desk.node(0, 1), 1);
        checks.row(desk, 0, 0);
    }

    private static void oneIsLeft(Checks checks) {
        NearDesk desk = Desks.full();
        for (int n = 0; n < 29; n++) {
            desk.remove(n);
        }
        checks.same("renew()", desk.renew(), 29);
        checks.same("count(0)", desk.count(0), 1);
        checks.same("count(2)", desk.count(2), 29);
        checks.same("count(3)", desk.count(3), 0);
        checks.same("node(29, 0)", desk.node(29, 0), 0);
        checks.same("node(29, 1)", desk.node(29, 1), 1);
        checks.row(desk, 29, 0);
    }

    private static void thirtyStay(Checks checks) {
        NearDesk desk = Desks.full();
        checks.same("renew()", desk.renew(), 0);
        checks.same("count(0)", desk.count(0), 30);
        for (int n = 0; n < 30; n++) {
            checks.same("node(" + n + ", 1)", desk.node(n, 1), n + 1);
        }
        checks.same("count(2)", desk.count(2), 26);
        checks.same("put", desk.put(0, 0, 0, 0, 0), NearDesk.FULL);
    }

    /** "(the first one is the first NODE again), with their numbers": 1, 2, 3 enter first to third. */
    private static void theFirstOneIsTheFirstNodeAgain(Checks checks) {
        NearDesk desk = Desks.line(60, 61, 30, 50, 0);
        desk.remove(0);
        desk.remove(4);
        desk.renew();
        int[] levels = {0, 0, 1};
        for (int i = 0; i < 3; i++) {
            checks.same("node(" + (i + 1) + ", 1)", desk.node(i + 1, 1), i + 1);
            checks.same("node(" + (i + 1) + ", 0)", desk.node(i + 1, 0), levels[i]);
        }
        checks.same("count(2)", desk.count(2), 3);
        checks.same("count(3)", desk.count(3), 1);
        checks.same("node(2, 11), in LAYER 1 no more", desk.node(2, 11), NearDesk.NONE);
    }

    /** "all LIVE DOCUMENTS ENTER it by their numbers", not as they were put. */
    private static void numbersDecideTheOrder(Checks checks) {
        NearDesk desk = Desks.line(1, 2, 3, 4);
        desk.remove(0);
        desk.renew();
        desk.put(9, 0, 0, 0, 0);
        checks.same("node(0, 1), the latest", desk.node(0, 1), 4);
        desk.renew();
        checks.same("node(0, 1), now the first", desk.node(0, 1), 1);
        checks.same("node(3, 1)", desk.node(3, 1), 4);
        checks.same("count(2)", desk.count(2), 2);
    }

    private static void rowsAreMadeAnew(Checks checks) {
        NearDesk desk = Desks.line(60, 61, 30, 50, 0);
        desk.remove(0);
        desk.remove(4);
        desk.renew();
        checks.row(desk, 1, 0, 2, 3);
        checks.row(desk, 2, 0, 1, 3);
        checks.row(desk, 3, 0, 1, 2);
        checks.row(desk, 3, 1);
    }

    private static void lostNeighboursComeBack(Checks checks) {
        NearDesk desk = Desks.star();
        checks.same("count(8)", desk.count(8), 1);
        desk.remove(1);
        desk.renew();
        checks.row(desk, 0, 0, 2, 3, 4, 5, 6, 7);
        checks.same("count(8), renewed", desk.count(8), 0);
    }

    private static void foundAndAskedStay(Checks checks) {
        NearDesk desk = Desks.line(0, 10, 20);
        desk.ask(10, 0, 0, 0);
        desk.near(2, 2);
        desk.remove(0);
        desk.renew();
        checks.found("FOUND after renew", desk, 1, 0, 0, 100);
        desk.exact(1);
        checks.found("the VECTOR ASKED after renew", desk, 1, 0);
    }

    private static void seenAddsUp(Checks checks) {
        NearDesk desk = Desks.line(0, 10, 20);
        desk.near(2, 2);
        int searched = desk.count(4);
        desk.remove(0);
        desk.renew();
        checks.same("count(4) after renew", desk.count(4), searched);
        // three were SEEN before; 10 and 20 entered anew, the second of them saw the first
        checks.same("count(5) after renew", desk.count(5), 3 + 1);
    }

    private static void vectorsAndCountsStay(Checks checks) {
        NearDesk desk = new NearDesk();
        desk.put(0, 0, 0, 0, 0);
        desk.put(1, 99, 2, 98, 16777215);
        desk.remove(0);
        desk.renew();
        int[] due = {1, 99, 2, 98, 16777215};
        for (int i = 0; i < due.length; i++) {
            checks.same("node(1, " + (3 + i) + ")", desk.node(1, 3 + i), due[i]);
        }
    }
}
