public final class Promise12NeighbourTest {
    public static void main(String[] args) {
        Checks checks = new Checks();
        rowByRow(checks);
        placesJustOutside(checks);
        layersJustOutside(checks);
        numbersJustOutside(checks);
        farOff(checks);
        placesThatWrapAround(checks);
        emptyRow(checks);
        leastAndGreatestNumber(checks);
        removedNode(checks);
        renewedNode(checks);
        placesOfALongerRowBefore(checks);
        checks.end();
    }

    private static void rowByRow(Checks checks) {
        NearDesk desk = Desks.star();
        int[] row = {0, 3, 4, 5, 6, 7};
        for (int i = 0; i < row.length; i++) {
            checks.same("neighbour(1, 0, " + i + ")", desk.neighbour(1, 0, i), row[i]);
        }
        checks.same("neighbour(2, 1, 0)", desk.neighbour(2, 1, 0), 5);
    }

    /** "NONE if there is none such, for any other numbers" */
    private static void placesJustOutside(Checks checks) {
        NearDesk desk = Desks.star();
        checks.same("neighbour(1, 0, -1)", desk.neighbour(1, 0, -1), NearDesk.NONE);
        checks.same("neighbour(1, 0, 5)", desk.neighbour(1, 0, 5), 7);
        checks.same("neighbour(1, 0, 6)", desk.neighbour(1, 0, 6), NearDesk.NONE);
        checks.same("neighbour(1, 0, 7)", desk.neighbour(1, 0, 7), NearDesk.NONE);
        checks.same("neighbour(3, 0, 2)", desk.neighbour(3, 0, 2), 2);
        checks.same("neighbour(3, 0, 3)", desk.neighbour(3, 0, 3), NearDesk.NONE);
        checks.same("neighbour(2, 1, 1)", desk.neighbour(2, 1, 1), NearDesk.NONE);
    }

    private static void layersJustOutside(Checks checks) {
        NearDesk desk = Desks.evenLine(27, 3);
        checks.same("neighbour(0, -1, 0)", desk.neighbour(0, -1, 0), NearDesk.NONE);
        checks.same("neighbour(0, 1, 0)", desk.neighbour(0, 1, 0), NearDesk.NONE);
        checks.same("neighbour(2, 1, 0)", desk.neighbour(2, 1, 0), 5);
        checks.same("neighbour(2, 2, 0)", desk.neighbour(2, 2, 0), NearDesk.NONE);
        checks.same("neighbour(26, 2, 0)", desk.neighbour(26, 2, 0), 17);
        checks.same("neighbour(26, 3, 0)", desk.neighbour(26, 3, 0), NearDesk.NONE);
        checks.same("neighbour(26, 4, 0)", desk.neighbour(26, 4, 0), NearDesk.NONE);
    }

    private static void numbersJustOutside(Checks checks) {
        NearDesk desk = Desks.star();
        checks.same("neighbour(-1, 0, 0)", desk.neighbour(-1, 0, 0), NearDesk.NONE);
        checks.same("neighbour(7, 0, 0)", desk.neighbour(7, 0, 0), 0);
        checks.same("neighbour(8, 0, 0)", desk.neighbour(8, 0, 0), NearDesk.NONE);
        NearDesk full = Desks.full();
        checks.same("neighbour(30, 0, 0)", full.neighbour(30, 0, 0), NearDesk.NONE);
        checks.same("neighbour(-1, 0, 0), full", full.neighbour(-1, 0, 0), NearDesk.NONE);
    }

    private static void farOff(Checks checks) {
        NearDesk desk = Desks.full();
        for (int far : Desks.FAR_OFF) {
            checks.same("n far off", desk.neighbour(far, 0, 0), NearDesk.NONE);
            checks.same("layer far off", desk.neighbour(0, far, 0), NearDesk.NONE);
            checks.same("i far off", desk.neighbour(0, 0, far), NearDesk.NONE);
            checks.same("all far off", desk.neighbour(far, far, far), NearDesk.NONE);
        }
    }

    /** Numbers that, multiplied by what a row or a NODE takes, come out at a place that is there. */
    private static void placesThatWrapAround(Checks checks) {
        NearDesk desk = Desks.full();
        for (int shift = 24; shift < 32; shift++) {
            checks.same("n", desk.neighbour(1 << shift, 0, 0), NearDesk.NONE);
            checks.same("layer", desk.neighbour(26, 1 << shift, 0), NearDesk.NONE);
            checks.same("i", desk.neighbour(26, 0, 1 << shift), NearDesk.NONE);
        }
        checks.same("the row behind", desk.neighbour(0, 0, 28), NearDesk.NONE);
        checks.same("the row before", desk.neighbour(1, 0, -28), NearDesk.NONE);
        checks.same("the NODE behind", desk.neighbour(0, 4, 0), NearDesk.NONE);
        checks.same("the NODE before", desk.neighbour(1, -4, 0), NearDesk.NONE);
    }

    private static void emptyRow(Checks checks) {
        checks.same("one alone", Desks.line(5).neighbour(0, 0, 0), NearDesk.NONE);
        checks.same("alone in LAYER 1", Desks.line(5, 6, 7).neighbour(2, 1, 0), NearDesk.NONE);
        checks.same("of none", new NearDesk().neighbour(0, 0, 0), NearDesk.NONE);
    }

    private static void leastAndGreatestNumber(Checks checks) {
        NearDesk desk = Desks.evenLine(30, 3);
        checks.row(desk, 0, 0, 1, 2, 3);
        checks.row(desk, 29, 0, 28, 27, 26);
        checks.row(desk, 28, 0, 27, 26, 25, 29);
    }

    private static void removedNode(Checks checks) {
        NearDesk desk = Desks.star();
        desk.remove(1);
        checks.same("neighbour(1, 0, 0), removed", desk.neighbour(1, 0, 0), 0);
        checks.same("neighbour(0, 0, 0), its other", desk.neighbour(0, 0, 0), 1);
    }

    private static void renewedNode(Checks checks) {
        NearDesk desk = Desks.star();
        desk.remove(1);
        desk.renew();
        checks.same("neighbour(1, 0, 0), renewed", desk.neighbour(1, 0, 0), NearDesk.NONE);
        checks.same("neighbour(0, 0, 0), renewed", desk.neighbour(0, 0, 0), 2);
    }

    /** 0 had six, and has one now. */
    private static void placesOfALongerRowBefore(Checks checks) {
        NearDesk desk = Desks.star();
        for (int n = 2; n < 8; n++) {
            desk.remove(n);
        }
        desk.renew();
        checks.row(desk, 0, 0, 1);
        checks.row(desk, 1, 0, 0);
    }
}
