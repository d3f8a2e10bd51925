public final class Promise11NodeTest {
    public static void main(String[] args) {
        Checks checks = new Checks();
        eachWhat(checks);
        whatJustOutside(checks);
        whatBetween(checks);
        numbersJustOutside(checks);
        farOff(checks);
        neverPut(checks);
        layersAboveItsLevel(checks);
        highestLayer(checks);
        refusedBeforeNone(checks);
        leastAndGreatest(checks);
        removedNode(checks);
        renewedNode(checks);
        checks.end();
    }

    private static NearDesk three() {
        NearDesk desk = new NearDesk();
        desk.put(1, 2, 3, 4, 5);
        desk.put(0, 99, 50, 7, 16777215);
        desk.put(9, 8, 7, 6, 0);
        return desk;
    }

    private static void eachWhat(Checks checks) {
        NearDesk desk = three();
        int[][] due = {
            {0, 1, 1, 1, 2, 3, 4, 5},
            {0, 2, 1, 0, 99, 50, 7, 16777215},
            {1, 3, 1, 9, 8, 7, 6, 0},
        };
        for (int n = 0; n < due.length; n++) {
            for (int what = 0; what < due[n].length; what++) {
                checks.same("node(" + n + ", " + what + ")", desk.node(n, what), due[n][what]);
            }
            checks.same("node(" + n + ", 10)", desk.node(n, 10), 2);
        }
    }

    /** "REFUSED for another what": less than 0, more than 13. */
    private static void whatJustOutside(Checks checks) {
        NearDesk desk = Desks.full();
        checks.same("node(26, -1)", desk.node(26, -1), NearDesk.REFUSED);
        checks.same("node(26, 0)", desk.node(26, 0), 3);
        checks.same("node(26, 13)", desk.node(26, 13), 0);
        checks.same("node(26, 14)", desk.node(26, 14), NearDesk.REFUSED);
    }

    private static void whatBetween(Checks checks) {
        NearDesk desk = three();
        checks.same("node(0, 7)", desk.node(0, 7), 5);
        checks.same("node(0, 8)", desk.node(0, 8), NearDesk.REFUSED);
        checks.same("node(0, 9)", desk.node(0, 9), NearDesk.REFUSED);
        checks.same("node(0, 10)", desk.node(0, 10), 2);
    }

    /** "NONE if there is no such NODE" */
    private static void numbersJustOutside(Checks checks) {
        NearDesk desk = Desks.full();
        for (int what : new int[] {0, 1, 2, 3, 4, 5, 6, 7, 10, 11, 12, 13}) {
            checks.same("node(-1, " + what + ")", desk.node(-1, what), NearDesk.NONE);
            checks.same("node(30, " + what + ")", desk.node(30, what), NearDesk.NONE);
            checks.same("node(32, " + what + ")", desk.node(32, what), NearDesk.NONE);
        }
    }

    private static void farOff(Checks checks) {
        NearDesk desk = Desks.full();
        for (int far : Desks.FAR_OFF) {
            checks.same("node(" + far + ", 0)", desk.node(far, 0), NearDesk.NONE);
            checks.same("node(" + far + ", 10)", desk.node(far, 10), NearDesk.NONE);
            checks.same("node(0, " + far + ")", desk.node(0, far), NearDesk.REFUSED);
        }
    }

    private static void neverPut(Checks checks) {
        NearDesk desk = three();
        for (int what : new int[] {0, 1, 2, 3, 4, 5, 6, 7, 10, 11, 12, 13}) {
            checks.same("node(3, " + what + ")", desk.node(3, what), NearDesk.NONE);
            checks.same("node(29, " + what + ")", desk.node(29, what), NearDesk.NONE);
        }
    }

    /** "NONE if it is not in that" */
    private static void layersAboveItsLevel(Checks checks) {
        NearDesk desk = three();
        for (int what = 11; what <= 13; what++) {
            checks.same("node(0, " + what + ")", desk.node(0, what), NearDesk.NONE);
        }
        checks.same("node(2, 11)", desk.node(2, 11), 0);
        checks.same("node(2, 12)", desk.node(2, 12), NearDesk.NONE);
        checks.same("node(2, 13)", desk.node(2, 13), NearDesk.NONE);
    }

    private static void highestLayer(Checks checks) {
        NearDesk desk = Desks.full();
        checks.same("node(26, 0)", desk.node(26, 0), 3);
        checks.same("node(26, 12)", desk.node(26, 12), 2);
        checks.same("node(26, 13)", desk.node(26, 13), 0);
        checks.same("node(17, 12)", desk.node(17, 12), 2);
        checks.same("node(17, 13)", desk.node(17, 13), NearDesk.NONE);
    }

    private static void refusedBeforeNone(Checks checks) {
        for (int what : new int[] {-1, 8, 9, 14, Integer.MIN_VALUE, Integer.MAX_VALUE}) {
            checks.same("node(29, " + what + ")", three().node(29, what), NearDesk.REFUSED);
            checks.same("node(-1, " + what + ")", three().node(-1, what), NearDesk.REFUSED);
            checks.same("node(30, " + what + ")", new NearDesk().node(30, what), NearDesk.REFUSED);
        }
    }

    private static void leastAndGreatest(Checks checks) {
        NearDesk desk = new NearDesk();
        desk.put(0, 99, 0, 99, 0);
        for (int n = 1; n < 29; n++) {
            desk.put(1, 1, 1, 1, 1);
        }
        desk.put(99, 0, 99, 0, 16777215);
        int[] first = {0, 1, 1, 0, 99, 0, 99, 0};
        int[] last = {1, 30, 1, 99, 0, 99, 0, 16777215};
        for (int what = 0; what < 8; what++) {
            checks.same("node(0, " + what + ")", desk.node(0, what), first[what]);
            checks.same("node(29, " + what + ")", desk.node(29, what), last[what]);
        }
    }

    private static void removedNode(Checks checks) {
        NearDesk desk = three();
        desk.remove(1);
        int[] due = {0, 2, 0, 0, 99, 50, 7, 16777215};
        for (int what = 0; what < due.length; what++) {
            checks.same("node(1, " + what + "), removed", desk.node(1, what), due[what]);
        }
        checks.same("node(1, 10), removed", desk.node(1, 10), 2);
    }

    private static void renewedNode(Checks checks) {
        NearDesk desk = three();
        desk.remove(1);
        desk.renew();
        for (int what : new int[] {0, 1, 2, 3, 7, 10}) {
            checks.same("node(1, " + what + "), renewed", desk.node(1, what), NearDesk.NONE);
        }
        checks.same("node(2, 0), renewed", desk.node(2, 0), 0);
        checks.same("node(2, 1), renewed", desk.node(2, 1), 2);
        checks.same("node(2, 11), renewed", desk.node(2, 11), NearDesk.NONE);
    }
}
