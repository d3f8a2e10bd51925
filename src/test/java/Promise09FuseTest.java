public final class Promise09FuseTest {
    public static void main(String[] args) {
        Checks checks = new Checks();
        bothLists(checks);
        placesOfOneList(checks);
        placesOfTheSearch(checks);
        theTenthOfBothGetsSome(checks);
        theEleventhOfTheListGetsNothing(checks);
        theEleventhOfTheSearchGetsNothing(checks);
        moreThanTenAreFused(checks);
        leastAndGreatestNumber(checks);
        sameByNumber(checks);
        kJustOutside(checks);
        setJustOutside(checks);
        farOff(checks);
        onlyTheFirstK(checks);
        placesAreOfLiveOnes(checks);
        theSearchHasWidthTen(checks);
        theWidthCountsRemovedOnes(checks);
        noneToFind(checks);
        refusedChangesNothing(checks);
        checks.end();
    }

    private static NearDesk three() {
        NearDesk desk = new NearDesk();
        desk.put(0, 0, 0, 0, 1);
        desk.put(10, 0, 0, 0, 0);
        desk.put(20, 0, 0, 0, 2);
        return desk;
    }

    /** LIST: 2, 0. SEARCH: 0, 1, 2. Places get 100, 90, 83. */
    private static void bothLists(Checks checks) {
        NearDesk desk = three();
        checks.same("fuse(10, 1)", desk.fuse(10, 1), 3);
        checks.found("fuse(10, 1)", desk, 0, 90 + 100, 2, 100 + 83, 1, 90);
        checks.same("count(4)", desk.count(4), 4);
    }

    /** "1000 / (10 + p) for that (without remainder)": the LIST alone, as no one is come to by the GRAPH. */
    private static void placesOfOneList(Checks checks) {
        NearDesk desk = new NearDesk();
        for (int n = 0; n < 30; n++) {
            desk.put(1, 1, 1, 1, n < 7 ? 0 : 1);
        }
        for (int n = 0; n < 7; n++) {
            desk.remove(n);
        }
        checks.same("near(10, 10)", desk.near(10, 10), 0);
        checks.same("fuse(10, 1)", desk.fuse(10, 1), 10);
        checks.found("fuse(10, 1)", desk, 7, 100, 8, 90, 9, 83, 10, 76, 11, 71, 12, 66, 13, 62, 14, 58, 15, 55,
                16, 52);
    }

    /** The set is empty, so the SEARCH alone gives places. */
    private static void placesOfTheSearch(Checks checks) {
        NearDesk desk = Desks.evenLine(12, 9);
        checks.same("fuse(10, 0)", desk.fuse(10, 0), 10);
        checks.found("fuse(10, 0)", desk, 0, 100, 1, 90, 2, 83, 3, 76, 4, 71, 5, 66, 6, 62, 7, 58, 8, 55, 9, 52);
    }

    /** Eleven on a line; asked at its end, the SEARCH gives 10 down to 1, the LIST 0 to 9. */
    private static NearDesk eleven() {
        NearDesk desk = new NearDesk();
        for (int n = 0; n < 11; n++) {
            desk.put(n * 9, 0, 0, 0, 1);
        }
        desk.ask(99, 0, 0, 0);
        return desk;
    }

    /** Without 0 the LIST and the SEARCH have ten each: the tenth of one is the first of the other. */
    private static void theTenthOfBothGetsSome(Checks checks) {
        NearDesk desk = eleven();
        desk.remove(0);
        desk.fuse(10, 1);
        checks.found("ten LIVE", desk, 1, 100 + 52, 10, 52 + 100, 2, 90 + 55, 9, 55 + 90, 3, 83 + 58, 8, 58 + 83,
                4, 76 + 62, 7, 62 + 76, 5, 71 + 66, 6, 66 + 71);
    }

    /**
     * "The first 10 of the LIST": 10, the eleventh there, has 100 for the SEARCH alone. 5, which is the
     * farthest, has 66 for the LIST alone, and comes last.
     */
    private static void theEleventhOfTheListGetsNothing(Checks checks) {
        int[] places = {9, 18, 27, 36, 45, 0, 54, 63, 72, 81, 90};
        NearDesk desk = new NearDesk();
        for (int place : places) {
            desk.put(place, 0, 0, 0, 1);
        }
        desk.ask(99, 0, 0, 0);
        checks.same("near(10, 10)", desk.near(10, 10), 10);
        checks.same("the tenth of the SEARCH", desk.found(9, 0), 0);
        desk.fuse(10, 1);
        checks.found("fuse(10, 1)", desk, 0, 100 + 52, 1, 90 + 55, 9, 52 + 90, 2, 83 + 58, 3, 76 + 62, 8, 55 + 83,
                4, 71 + 66, 7, 58 + 76, 6, 62 + 71, 10, 100);
    }

    /** "the first 10 of what a SEARCH with WIDTH 10 gives": 0, the eleventh there, has 100 for the LIST. */
    private static void theEleventhOfTheSearchGetsNothing(Checks checks) {
        NearDesk desk = eleven();
        checks.same("fuse(10, 1)", desk.fuse(10, 1), 10);
        checks.found("fuse(10, 1)", desk,
                1, 90 + 52, 9, 52 + 90, 2, 83 + 55, 8, 55 + 83, 3, 76 + 58, 7, 58 + 76, 4, 71 + 62, 6, 62 + 71,
                5, 66 + 66, 0, 100);
    }

    /** LIST: 0 to 9 (12 have the WORD). SEARCH: 19 down to 10. */
    private static void moreThanTenAreFused(Checks checks) {
        NearDesk desk = new NearDesk();
        for (int n = 0; n < 20; n++) {
            desk.put(n * 4, 0, 0, 0, n < 12 ? 1 : 0);
        }
        desk.ask(99, 0, 0, 0);
        checks.same("near(10, 10)", desk.near(10, 10), 10);
        checks.same("the tenth of the SEARCH", desk.found(9, 0), 10);
        checks.same("fuse(10, 1)", desk.fuse(10, 1), 10);
        checks.found("fuse(10, 1)", desk,
                0, 100, 19, 100, 1, 90, 18, 90, 2, 83, 17, 83, 3, 76, 16, 76, 4, 71, 15, 71);
    }

    /** Twice, as nothing of one call may count for the next. */
    private static void leastAndGreatestNumber(Checks checks) {
        NearDesk desk = new NearDesk();
        for (int n = 0; n < 30; n++) {
            desk.put(n * 3, 0, 0, 0, n == 0 ? 1 : n == 29 ? 2 : 0);
        }
        for (int i = 0; i < 2; i++) {
            // LIST: 29, 0; SEARCH: 0, 1, 2, ..
            desk.ask(0, 0, 0, 0);
            desk.fuse(3, 1);
            checks.found("at the beginning", desk, 0, 90 + 100, 29, 100, 1, 90);
            // SEARCH: 29, 28, 27, ..
            desk.ask(99, 0, 0, 0);
            desk.fuse(3, 1);
            checks.found("at the end", desk, 29, 100 + 100, 0, 90, 28, 90);
        }
    }

    /** "those with the same by their numbers": LIST: 0, 1; SEARCH: 1, 0. */
    private static void sameByNumber(Checks checks) {
        NearDesk desk = new NearDesk();
        desk.put(10, 0, 0, 0, 2);
        desk.put(0, 0, 0, 0, 1);
        desk.fuse(2, 1);
        checks.found("fuse(2, 1)", desk, 0, 190, 1, 190);
        desk.fuse(1, 1);
        checks.found("fuse(1, 1)", desk, 0, 190);
    }

    /** "k (1 to 10)", "REFUSED if a number is not as said" */
    private static void kJustOutside(Checks checks) {
        NearDesk desk = three();
        checks.same("fuse(-1, 1)", desk.fuse(-1, 1), NearDesk.REFUSED);
        checks.same("fuse(0, 1)", desk.fuse(0, 1), NearDesk.REFUSED);
        checks.same("fuse(1, 1)", desk.fuse(1, 1), 1);
        checks.same("fuse(10, 1)", desk.fuse(10, 1), 3);
        checks.same("fuse(11, 1)", desk.fuse(11, 1), NearDesk.REFUSED);
    }

    /** "a set of WORDS (0 to 255)" */
    private static void setJustOutside(Checks checks) {
        NearDesk desk = three();
        checks.same("fuse(10, -1)", desk.fuse(10, -1), NearDesk.REFUSED);
        checks.same("fuse(10, 0)", desk.fuse(10, 0), 3);
        checks.found("fuse(10, 0)", desk, 0, 100, 1, 90, 2, 83);
        checks.same("fuse(10, 255)", desk.fuse(10, 255), 3);
        checks.found("fuse(10, 255)", desk, 0, 190, 2, 183, 1, 90);
        checks.same("fuse(10, 256)", desk.fuse(10, 256), NearDesk.REFUSED);
    }

    private static void farOff(Checks checks) {
        NearDesk desk = three();
        for (int far : Desks.FAR_OFF) {
            checks.same("fuse(" + far + ", 1)", desk.fuse(far, 1), NearDesk.REFUSED);
            checks.same("fuse(1, " + far + ")", desk.fuse(1, far), NearDesk.REFUSED);
        }
    }

    private static void onlyTheFirstK(Checks checks) {
        NearDesk desk = three();
        checks.same("fuse(1, 1)", desk.fuse(1, 1), 1);
        checks.found("fuse(1, 1)", desk, 0, 190);
        checks.same("fuse(2, 1)", desk.fuse(2, 1), 2);
        checks.found("fuse(2, 1)", desk, 0, 190, 2, 183);
    }

    /** LIST: 2. SEARCH: 1, 2. */
    private static void placesAreOfLiveOnes(Checks checks) {
        NearDesk desk = three();
        desk.remove(0);
        desk.fuse(10, 1);
        checks.found("fuse(10, 1)", desk, 2, 100 + 90, 1, 100);
    }

    /** Whatever k is: on the line of ten, WIDTH 10 sees all ten in LAYER 0 (see Terms3WalkTest). */
    private static void theSearchHasWidthTen(Checks checks) {
        for (int k = 1; k <= 10; k++) {
            NearDesk desk = Desks.evenLine(10, 10);
            checks.same("fuse(" + k + ", 0)", desk.fuse(k, 0), k);
            checks.same("count(4)", desk.count(4), 1 + 3 + 10);
        }
    }

    /** Nine that are not LIVE are HELD, and one that is. */
    private static void theWidthCountsRemovedOnes(Checks checks) {
        NearDesk desk = Desks.evenLine(12, 9);
        for (int n = 0; n < 9; n++) {
            desk.remove(n);
        }
        checks.same("fuse(10, 0)", desk.fuse(10, 0), 1);
        checks.found("fuse(10, 0)", desk, 9, 100);
    }

    private static void noneToFind(Checks checks) {
        NearDesk none = new NearDesk();
        checks.same("fuse(1, 255) of none", none.fuse(1, 255), 0);
        checks.same("count(4) of none", none.count(4), 0);
        NearDesk desk = three();
        desk.fuse(3, 1);
        for (int n = 0; n < 3; n++) {
            desk.remove(n);
        }
        checks.same("fuse(10, 255), none LIVE", desk.fuse(10, 255), 0);
        checks.found("nothing any more", desk);
    }

    private static void refusedChangesNothing(Checks checks) {
        NearDesk desk = three();
        desk.fuse(1, 1);
        desk.fuse(0, 1);
        desk.fuse(11, 1);
        desk.fuse(1, -1);
        desk.fuse(1, 256);
        checks.found("after REFUSED", desk, 0, 190);
        checks.same("count(4) after REFUSED", desk.count(4), 4);
    }
}
