public final class Promise02PutTest {
    public static void main(String[] args) {
        Checks checks = new Checks();
        edgesAreTaken(checks);
        wrongNumbersAreRefused(checks);
        fullAtThirtyNodes(checks);
        removedNodesKeepTheirNumbers(checks);
        leastNumberIsTaken(checks);
        levelsAndEntry(checks);
        firstLinks(checks);
        chosenBeforeTheOthers(checks);
        sameDistanceIsNotLess(checks);
        longRowsAreShortened(checks);
        longRowsAboveAreShortened(checks);
        checks.end();
    }

    private static void edgesAreTaken(Checks checks) {
        NearDesk desk = new NearDesk();
        checks.same("put least", desk.put(0, 0, 0, 0, 0), 0);
        checks.same("put greatest", desk.put(99, 99, 99, 99, 16777215), 1);
        checks.same("node(1, 7)", desk.node(1, 7), 16777215);
    }

    private static void wrongNumbersAreRefused(Checks checks) {
        NearDesk desk = Desks.line(1, 2);
        for (int at = 0; at < 4; at++) {
            checks.same("put, one less, at " + at, putWith(desk, at, -1), NearDesk.REFUSED);
            checks.same("put, one more, at " + at, putWith(desk, at, 100), NearDesk.REFUSED);
        }
        checks.same("put, words one less", putWith(desk, 4, -1), NearDesk.REFUSED);
        checks.same("put, words one more", putWith(desk, 4, 16777216), NearDesk.REFUSED);
        for (int far : Desks.FAR_OFF) {
            for (int at = 0; at < 5; at++) {
                checks.same("put, far off, at " + at, putWith(desk, at, far), NearDesk.REFUSED);
            }
        }
        checks.same("count(0) after REFUSED", desk.count(0), 2);
        checks.same("count(1) after REFUSED", desk.count(1), 2);
        checks.same("count(5) after REFUSED", desk.count(5), 1);
        checks.same("put after REFUSED", desk.put(3, 0, 0, 0, 0), 2);
        checks.same("node(2, 1)", desk.node(2, 1), 3);
    }

    private static int putWith(NearDesk desk, int at, int number) {
        int[] p = {5, 5, 5, 5, 5};
        p[at] = number;
        return desk.put(p[0], p[1], p[2], p[3], p[4]);
    }

    private static void fullAtThirtyNodes(Checks checks) {
        NearDesk desk = new NearDesk();
        for (int n = 0; n < 30; n++) {
            checks.same("put the " + n, desk.put(n, n, n, n, n), n);
        }
        int seen = desk.count(5);
        checks.same("put the 31st", desk.put(1, 1, 1, 1, 1), NearDesk.FULL);
        checks.same("REFUSED before FULL", desk.put(1, 1, 1, 100, 1), NearDesk.REFUSED);
        checks.same("count(0)", desk.count(0), 30);
        checks.same("count(5) unchanged", desk.count(5), seen);
        checks.same("node(0, 7) unchanged", desk.node(0, 7), 0);
    }

    private static void removedNodesKeepTheirNumbers(Checks checks) {
        NearDesk desk = Desks.line(1, 2, 3);
        desk.remove(1);
        checks.same("put after remove", desk.put(4, 0, 0, 0, 0), 3);
        NearDesk full = Desks.full();
        for (int n = 0; n < 30; n++) {
            full.remove(n);
        }
        checks.same("put, all removed", full.put(1, 1, 1, 1, 1), NearDesk.FULL);
        checks.same("renew()", full.renew(), 30);
        checks.same("put after renew", full.put(1, 1, 1, 1, 1), 0);
    }

    private static void leastNumberIsTaken(Checks checks) {
        NearDesk desk = Desks.line(1, 2, 3, 4, 5);
        desk.remove(3);
        desk.remove(1);
        desk.renew();
        checks.same("put into the first gap", desk.put(9, 0, 0, 0, 0), 1);
        checks.same("put into the second gap", desk.put(9, 0, 0, 0, 0), 3);
        checks.same("put behind", desk.put(9, 0, 0, 0, 0), 5);
    }

    private static void levelsAndEntry(Checks checks) {
        int[] levels = {0, 0, 1, 0, 0, 1, 0, 0, 2, 0, 0, 1, 0, 0, 1, 0, 0, 2, 0, 0, 1, 0, 0, 1, 0, 0, 3, 0, 0, 1};
        NearDesk desk = new NearDesk();
        for (int n = 0; n < 30; n++) {
            desk.put(n * 37 % 100, n * 11 % 100, n, 99 - n, 0);
            checks.same("node(" + n + ", 0)", desk.node(n, 0), levels[n]);
            checks.same("node(" + n + ", 1)", desk.node(n, 1), n + 1);
            int entry = n < 2 ? 0 : n < 8 ? 2 : n < 26 ? 8 : 26;
            checks.same("count(2) after " + n, desk.count(2), entry);
            checks.same("count(3) after " + n, desk.count(3), levels[entry]);
        }
    }

    private static void firstLinks(Checks checks) {
        NearDesk desk = Desks.line(0, 10, 20);
        checks.row(desk, 0, 0, 1, 2);
        checks.row(desk, 1, 0, 0, 2);
        checks.row(desk, 2, 0, 1, 0);
        checks.row(desk, 2, 1);
        // the 2nd saw 0; the 3rd saw 0 and 1
        checks.same("count(5)", desk.count(5), 3);
    }

    private static void chosenBeforeTheOthers(Checks checks) {
        // from 50: 60 is nearest; 61 is nearer to 60 than to 50, so 30 comes before it
        NearDesk desk = Desks.line(60, 61, 30, 50);
        checks.row(desk, 3, 0, 0, 2, 1);
        checks.row(desk, 0, 0, 1, 2, 3);
        checks.row(desk, 1, 0, 0, 2, 3);
        checks.row(desk, 2, 0, 0, 1, 3);
    }

    private static void sameDistanceIsNotLess(Checks checks) {
        // from 0,0: 0 at 20,0 is nearest; 1 has 500 to the VECTOR and 500 to 0, so it is not CHOSEN
        // at once, 2 (with 900 and 1300) is
        NearDesk desk = new NearDesk();
        desk.put(20, 0, 0, 0, 0);
        desk.put(10, 20, 0, 0, 0);
        desk.put(0, 0, 30, 0, 0);
        desk.put(0, 0, 0, 0, 0);
        checks.row(desk, 3, 0, 0, 2, 1);
    }

    private static void longRowsAreShortened(Checks checks) {
        NearDesk desk = Desks.star();
        checks.row(desk, 0, 0, 1, 2, 3, 4, 5, 6);
        checks.row(desk, 1, 0, 0, 3, 4, 5, 6, 7);
        checks.row(desk, 2, 0, 0, 3, 4, 5, 6, 7);
        for (int n = 3; n < 8; n++) {
            checks.row(desk, n, 0, 0, 1, 2);
        }
        checks.row(desk, 2, 1, 5);
        checks.row(desk, 5, 1, 2);
    }

    private static void longRowsAboveAreShortened(Checks checks) {
        // all in one place: numbers decide, and each row in LAYER 1 keeps its three least
        NearDesk desk = new NearDesk();
        for (int n = 0; n < 15; n++) {
            desk.put(7, 7, 7, 7, 0);
        }
        // 2, 5, 8, 11 and 14 are in LAYER 1
        checks.row(desk, 2, 1, 5, 8, 11);
        checks.row(desk, 5, 1, 2, 8, 11);
        checks.row(desk, 8, 1, 2, 5, 11);
        checks.row(desk, 11, 1, 2, 5, 8);
        checks.row(desk, 14, 1, 2, 5, 8);
    }
}
