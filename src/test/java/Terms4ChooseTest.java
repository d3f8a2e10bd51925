/** TO CHOOSE, as the rows show it of NODES that have just entered. */
public final class Terms4ChooseTest {
    public static void main(String[] args) {
        Checks checks = new Checks();
        allIfThereAreFewer(checks);
        theOthersIfFewerAreChosen(checks);
        noOthersIfEnoughAreChosen(checks);
        noMoreThanThree(checks);
        sameDistanceIsNotLess(checks);
        sameDistanceGoesByNumber(checks);
        lessThanToEachOneChosen(checks);
        othersOfSameDistanceGoByNumber(checks);
        longRowIsFilledWithOthers(checks);
        checks.end();
    }

    private static NearDesk plane(int[]... places) {
        NearDesk desk = new NearDesk();
        for (int[] at : places) {
            desk.put(at[0], at[1], 0, 0, 0);
        }
        return desk;
    }

    /** "until m are or all" */
    private static void allIfThereAreFewer(Checks checks) {
        checks.row(Desks.line(5), 0, 0);
        checks.row(Desks.line(5, 6), 1, 0, 0);
        checks.row(Desks.line(5, 6, 7), 2, 0, 1, 0);
        checks.row(Desks.line(5, 6, 7, 8), 3, 0, 2, 1, 0);
        checks.row(Desks.line(5, 6, 7, 8, 9), 4, 0, 3, 2, 1);
    }

    /** From 50: 60 is NEAREST; 61 is nearer to 60 than to 50, so 30 comes before it. */
    private static void theOthersIfFewerAreChosen(Checks checks) {
        NearDesk desk = Desks.line(60, 61, 30, 50);
        checks.row(desk, 3, 0, 0, 2, 1);
        checks.row(desk, 0, 0, 1, 2, 3);
        checks.row(desk, 1, 0, 0, 2, 3);
        checks.row(desk, 2, 0, 0, 1, 3);
    }

    /** "Then, if fewer than m are": 1 is nearer than 2 and 3, but it lies behind 0, and three are CHOSEN. */
    private static void noOthersIfEnoughAreChosen(Checks checks) {
        NearDesk desk = plane(new int[] {52, 50}, new int[] {53, 50}, new int[] {30, 50},
                new int[] {50, 80}, new int[] {50, 50});
        checks.row(desk, 4, 0, 0, 2, 3);
    }

    /** "until m are": four directions, the farthest one is not CHOSEN. */
    private static void noMoreThanThree(Checks checks) {
        NearDesk desk = plane(new int[] {90, 50}, new int[] {20, 50}, new int[] {50, 70},
                new int[] {50, 40}, new int[] {50, 50});
        checks.row(desk, 4, 0, 3, 2, 1);
    }

    /** 1 has DISTANCE 500 to the VECTOR and to 0, so it is not CHOSEN at once; 2 (900 and 1300) is. */
    private static void sameDistanceIsNotLess(Checks checks) {
        NearDesk desk = new NearDesk();
        desk.put(20, 0, 0, 0, 0);
        desk.put(10, 20, 0, 0, 0);
        desk.put(0, 0, 30, 0, 0);
        desk.put(0, 0, 0, 0, 0);
        checks.row(desk, 3, 0, 0, 2, 1);
    }

    private static void sameDistanceGoesByNumber(Checks checks) {
        NearDesk desk = plane(new int[] {50, 40}, new int[] {60, 50}, new int[] {50, 60},
                new int[] {40, 50}, new int[] {50, 50});
        checks.row(desk, 4, 0, 0, 1, 2);
    }

    /** 2 lies behind 1 (the latest one CHOSEN), 3 behind 0 (the first one): neither goes before 4. */
    private static void lessThanToEachOneChosen(Checks checks) {
        NearDesk desk = plane(new int[] {60, 50}, new int[] {50, 70}, new int[] {50, 75},
                new int[] {76, 50}, new int[] {10, 50}, new int[] {50, 50});
        checks.row(desk, 5, 0, 0, 1, 4);
    }

    /** All in one place: after the first one, none has less than DISTANCE 0. */
    private static void othersOfSameDistanceGoByNumber(Checks checks) {
        NearDesk desk = Desks.onePlace(5);
        checks.row(desk, 3, 0, 0, 1, 2);
        checks.row(desk, 4, 0, 0, 1, 2);
    }

    /**
     * For 0, at 50, seven are too many: 7 (51) is CHOSEN, and 6 (40), the farthest, on the other side;
     * then the others by nearness, 5 to 2; 1 goes.
     */
    private static void longRowIsFilledWithOthers(Checks checks) {
        NearDesk desk = Desks.line(50, 57, 56, 55, 54, 53, 40, 51);
        checks.row(desk, 0, 0, 7, 6, 5, 4, 3, 2);
    }
}
