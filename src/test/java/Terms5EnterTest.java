/** How a DOCUMENT ENTERS, by its LEVEL and the TOP. */
public final class Terms5EnterTest {
    public static void main(String[] args) {
        Checks checks = new Checks();
        theFirstNode(checks);
        theSecondNode(checks);
        levelGreaterThanTop(checks);
        levelTwoGreaterThanTopOne(checks);
        levelThreeGreaterThanTopTwo(checks);
        levelSameAsTop(checks);
        levelLessThanTop(checks);
        fromAllWhereOneIs(checks);
        seenByEachThatEnters(checks);
        theFifthIsHeld(checks);
        theSixthIsNotHeld(checks);
        atMostThreeNeighbours(checks);
        becomesTheLast(checks);
        oneMayLoseTheOther(checks);
        removedNodesAreNeighboursToo(checks);
        checks.end();
    }

    /** "if it is the first NODE it is the ENTRY" */
    private static void theFirstNode(Checks checks) {
        NearDesk desk = Desks.line(5);
        checks.same("count(2)", desk.count(2), 0);
        checks.same("count(3)", desk.count(3), 0);
        checks.same("count(5)", desk.count(5), 0);
        checks.row(desk, 0, 0);
    }

    private static void theSecondNode(Checks checks) {
        NearDesk desk = Desks.line(5, 9);
        checks.same("count(2)", desk.count(2), 0);
        checks.same("count(3)", desk.count(3), 0);
        checks.same("count(5)", desk.count(5), 1);
        checks.row(desk, 0, 0, 1);
        checks.row(desk, 1, 0, 0);
    }

    /** "(from TOP, if that is less)" and "If its LEVEL is greater than TOP it is the ENTRY then." */
    private static void levelGreaterThanTop(Checks checks) {
        NearDesk desk = Desks.line(0, 10, 20);
        checks.same("count(2)", desk.count(2), 2);
        checks.same("count(3)", desk.count(3), 1);
        checks.row(desk, 2, 1);
        checks.row(desk, 2, 0, 1, 0);
        checks.row(desk, 0, 0, 1, 2);
        checks.row(desk, 1, 0, 0, 2);
        // 0 by the second, 0 and 1 by the third
        checks.same("count(5)", desk.count(5), 1 + 2);
    }

    /** The ninth: in LAYER 1 a WALK with WIDTH 5, so it has both 5 and 2 there, and none in LAYER 2. */
    private static void levelTwoGreaterThanTopOne(Checks checks) {
        NearDesk desk = Desks.evenLine(9, 10);
        checks.same("count(2)", desk.count(2), 8);
        checks.same("count(3)", desk.count(3), 2);
        checks.row(desk, 8, 2);
        checks.row(desk, 8, 1, 5, 2);
        checks.row(desk, 8, 0, 7, 6, 5);
        checks.row(desk, 2, 1, 5, 8);
        checks.row(desk, 5, 1, 2, 8);
    }

    private static void levelThreeGreaterThanTopTwo(Checks checks) {
        NearDesk desk = Desks.evenLine(27, 3);
        checks.same("count(2)", desk.count(2), 26);
        checks.same("count(3)", desk.count(3), 3);
        checks.row(desk, 26, 3);
        checks.row(desk, 26, 2, 17, 8);
        checks.row(desk, 26, 0, 25, 24, 23);
    }

    /** The sixth: no WALK above, one with WIDTH 5 in LAYER 1; the ENTRY stays. */
    private static void levelSameAsTop(Checks checks) {
        NearDesk desk = Desks.evenLine(5, 10);
        int seen = desk.count(5);
        desk.put(50, 0, 0, 0, 0);
        checks.same("count(2)", desk.count(2), 2);
        checks.same("count(3)", desk.count(3), 1);
        checks.row(desk, 5, 1, 2);
        checks.row(desk, 2, 1, 5);
        // 2 in LAYER 1, all five in LAYER 0
        checks.same("count(5)", desk.count(5), seen + 1 + 5);
    }

    /**
     * "from TOP down to above its LEVEL a WALK .. with WIDTH 1": the fourteenth begins LAYER 0 with 2
     * alone; with 8 as well, which no row there has, it would see one more.
     */
    private static void levelLessThanTop(Checks checks) {
        NearDesk desk = Desks.onePlaceButOne(13);
        int seen = desk.count(5);
        desk.put(1, 1, 1, 1, 0);
        // LAYER 2: 8. LAYER 1: 8, 2, 5, 11. LAYER 0: 0 to 4, 6, 7
        checks.same("count(5)", desk.count(5), seen + 1 + 4 + 7);
        checks.row(desk, 13, 0, 0, 1, 2);
        checks.same("node(13, 11)", desk.node(13, 11), NearDesk.NONE);
    }

    /**
     * "from the NODES where one is": the fifteenth has 2, 8, 11 and 5 HELD in LAYER 1, so all four are
     * SEEN at first in LAYER 0, though no row there has 5, 8 or 11.
     */
    private static void fromAllWhereOneIs(Checks checks) {
        NearDesk desk = Desks.onePlaceButOne(14);
        int seen = desk.count(5);
        desk.put(1, 1, 1, 1, 0);
        checks.same("count(5)", desk.count(5), seen + 1 + 4 + 10);
        checks.row(desk, 14, 0, 0, 1, 2);
    }

    /**
     * The line, place by place. From the seventh on LAYER 1 leads from 2 to 5 (2 are SEEN); there the
     * five NEAREST are HELD, and what these have is SEEN. The ninth has both 5 and 2 HELD in LAYER 1,
     * so both are SEEN and OPEN at first in LAYER 0. The tenth sees 8 in LAYER 2, 8, 5 and 2 in LAYER
     * 1, and in LAYER 0 all but 0.
     */
    private static void seenByEachThatEnters(Checks checks) {
        int[] due = {0, 1, 1 + 2, 3 + 1 + 3, 7 + 1 + 4, 12 + 1 + 5, 18 + 2 + 6, 26 + 2 + 7, 35 + 2 + 8,
            45 + 1 + 3 + 8};
        for (int many = 1; many <= due.length; many++) {
            checks.same("count(5) of " + many, Desks.evenLine(many, 10).count(5), due[many - 1]);
        }
    }

    /** "a WALK for its VECTOR with WIDTH 5": the fifth, on the other side, is CHOSEN before 1. */
    private static void theFifthIsHeld(Checks checks) {
        NearDesk desk = Desks.line(60, 61, 62, 63, 30, 50);
        checks.row(desk, 5, 0, 0, 4, 1);
        // the eleventh, at the beginning of the line of ten, sees as a SEARCH with WIDTH 5 does
        NearDesk line = Desks.evenLine(10, 10);
        int seen = line.count(5);
        line.put(0, 0, 0, 0, 0);
        checks.same("count(5)", line.count(5), seen + 1 + 3 + 8);
    }

    /** The sixth, on the other side, would be CHOSEN second if it were HELD. */
    private static void theSixthIsNotHeld(Checks checks) {
        NearDesk desk = Desks.line(60, 61, 62, 63, 64, 30, 50);
        checks.row(desk, 6, 0, 0, 1, 2);
    }

    /** "at most 3 are CHOSEN": in LAYER 0, too, where six have room. */
    private static void atMostThreeNeighbours(Checks checks) {
        NearDesk desk = Desks.star();
        for (int n = 3; n < 8; n++) {
            checks.same("node(" + n + ", 10)", desk.node(n, 10), 3);
        }
    }

    /** "it becomes the last of the NEIGHBOURS of that": though it is the NEAREST. */
    private static void becomesTheLast(Checks checks) {
        NearDesk desk = Desks.line(50, 90, 10, 51);
        checks.row(desk, 0, 0, 1, 2, 3);
    }

    /** "(One that was a NEIGHBOUR may be none any more, the other one still having it.)" */
    private static void oneMayLoseTheOther(Checks checks) {
        NearDesk desk = Desks.star();
        checks.same("7 has 0", desk.neighbour(7, 0, 0), 0);
        for (int i = 0; i < 6; i++) {
            checks.same("0 has the " + i, desk.neighbour(0, 0, i), i + 1);
        }
    }

    private static void removedNodesAreNeighboursToo(Checks checks) {
        NearDesk desk = Desks.line(0, 10, 20);
        desk.remove(1);
        desk.put(11, 0, 0, 0, 0);
        checks.row(desk, 3, 0, 1, 2, 0);
        checks.row(desk, 1, 0, 0, 2, 3);
    }
}
