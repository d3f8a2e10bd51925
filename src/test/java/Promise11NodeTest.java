public final class Promise11NodeTest {
    public static void main(String[] args) {
        Checks checks = new Checks();
        NearDesk desk = new NearDesk();
        desk.put(1, 2, 3, 4, 5);
        desk.put(0, 99, 50, 7, 16777215);
        desk.put(9, 8, 7, 6, 0);
        int[][] due = {
            {0, 1, 1, 1, 2, 3, 4, 5},
            {0, 2, 1, 0, 99, 50, 7, 16777215},
            {1, 3, 1, 9, 8, 7, 6, 0},
        };
        for (int n = 0; n < due.length; n++) {
            for (int what = 0; what < due[n].length; what++) {
                checks.same("node(" + n + ", " + what + ")", desk.node(n, what), due[n][what]);
            }
        }
        checks.same("node(0, 10)", desk.node(0, 10), 2);
        checks.same("node(0, 11)", desk.node(0, 11), NearDesk.NONE);
        checks.same("node(2, 10)", desk.node(2, 10), 2);
        checks.same("node(2, 11)", desk.node(2, 11), 0);
        checks.same("node(2, 12)", desk.node(2, 12), NearDesk.NONE);
        checks.same("node(2, 13)", desk.node(2, 13), NearDesk.NONE);
        wrongNumbers(checks, desk);
        removedNode(checks, desk);
        allLayers(checks);
        checks.end();
    }

    private static void wrongNumbers(Checks checks, NearDesk desk) {
        int[] wrong = {-1, 8, 9, 14, 15, Integer.MIN_VALUE, Integer.MAX_VALUE};
        for (int what : wrong) {
            checks.same("node(0, " + what + ")", desk.node(0, what), NearDesk.REFUSED);
            checks.same("REFUSED before NONE", desk.node(29, what), NearDesk.REFUSED);
        }
        int[] nowhere = {-1, 3, 29, 30, 32, 64, Integer.MIN_VALUE, Integer.MAX_VALUE};
        for (int n : nowhere) {
            for (int what = 0; what < 14; what++) {
                if (what != 8 && what != 9) {
                    checks.same("node(" + n + ", " + what + ")", desk.node(n, what), NearDesk.NONE);
                }
            }
        }
    }

    private static void removedNode(Checks checks, NearDesk desk) {
        desk.remove(1);
        checks.same("node(1, 2), removed", desk.node(1, 2), 0);
        checks.same("node(1, 4), removed", desk.node(1, 4), 99);
        checks.same("node(1, 7), removed", desk.node(1, 7), 16777215);
        checks.same("node(1, 10), removed", desk.node(1, 10), 2);
        desk.renew();
        checks.same("node(1, 2), renewed", desk.node(1, 2), NearDesk.NONE);
        checks.same("node(2, 0), renewed", desk.node(2, 0), 0);
        checks.same("node(2, 11), renewed", desk.node(2, 11), NearDesk.NONE);
    }

    private static void allLayers(Checks checks) {
        NearDesk desk = Desks.full();
        checks.same("node(26, 0)", desk.node(26, 0), 3);
        checks.same("node(26, 13)", desk.node(26, 13), 0);
        checks.same("node(17, 12)", desk.node(17, 12), 2);
        checks.same("node(17, 13)", desk.node(17, 13), NearDesk.NONE);
    }
}
