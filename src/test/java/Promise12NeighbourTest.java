public final class Promise12NeighbourTest {
    public static void main(String[] args) {
        Checks checks = new Checks();
        NearDesk desk = Desks.star();
        int[] row = {0, 3, 4, 5, 6, 7};
        for (int i = 0; i < row.length; i++) {
            checks.same("neighbour(1, 0, " + i + ")", desk.neighbour(1, 0, i), row[i]);
        }
        checks.same("neighbour(1, 0, 6)", desk.neighbour(1, 0, 6), NearDesk.NONE);
        checks.same("neighbour(1, 0, 7)", desk.neighbour(1, 0, 7), NearDesk.NONE);
        checks.same("neighbour(1, 0, -1)", desk.neighbour(1, 0, -1), NearDesk.NONE);
        checks.same("neighbour(2, 1, 0)", desk.neighbour(2, 1, 0), 5);
        checks.same("neighbour(2, 1, 1)", desk.neighbour(2, 1, 1), NearDesk.NONE);
        checks.same("neighbour(2, 2, 0)", desk.neighbour(2, 2, 0), NearDesk.NONE);
        checks.same("neighbour(1, 1, 0)", desk.neighbour(1, 1, 0), NearDesk.NONE);
        checks.same("neighbour(1, -1, 0)", desk.neighbour(1, -1, 0), NearDesk.NONE);
        checks.same("neighbour(1, 4, 0)", desk.neighbour(1, 4, 0), NearDesk.NONE);
        checks.same("neighbour(8, 0, 0)", desk.neighbour(8, 0, 0), NearDesk.NONE);
        checks.same("neighbour(30, 0, 0)", desk.neighbour(30, 0, 0), NearDesk.NONE);
        checks.same("neighbour(-1, 0, 0)", desk.neighbour(-1, 0, 0), NearDesk.NONE);
        for (int far : Desks.FAR_OFF) {
            checks.same("neighbour, n far off", desk.neighbour(far, 0, 0), NearDesk.NONE);
            checks.same("neighbour, layer far off", desk.neighbour(0, far, 0), NearDesk.NONE);
            checks.same("neighbour, i far off", desk.neighbour(0, 0, far), NearDesk.NONE);
        }
        desk.remove(1);
        checks.same("neighbour(1, 0, 0), removed", desk.neighbour(1, 0, 0), 0);
        checks.same("neighbour(0, 0, 0), its other", desk.neighbour(0, 0, 0), 1);
        desk.renew();
        checks.same("neighbour(1, 0, 0), renewed", desk.neighbour(1, 0, 0), NearDesk.NONE);
        checks.same("neighbour(0, 0, 0), renewed", desk.neighbour(0, 0, 0), 2);
        checks.end();
    }
}
