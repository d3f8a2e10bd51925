public final class Promise09FuseTest {
    public static void main(String[] args) {
        Checks checks = new Checks();
        bothLists(checks);
        sameByNumber(checks);
        onlyTenOfEach(checks);
        removedOnesAreInNeither(checks);
        wrongNumbersAreRefused(checks);
        checks.end();
    }

    private static NearDesk three() {
        NearDesk desk = new NearDesk();
        desk.put(0, 0, 0, 0, 1);
        desk.put(10, 0, 0, 0, 0);
        desk.put(20, 0, 0, 0, 2);
        return desk;
    }

    private static void bothLists(Checks checks) {
        NearDesk desk = three();
        // LIST: 2, 0. SEARCH: 0, 1, 2. Places get 100, 90, 83
        checks.same("fuse(10, 1)", desk.fuse(10, 1), 3);
        checks.found("fuse(10, 1)", desk, 0, 90 + 100, 2, 100 + 83, 1, 90);
        checks.same("count(4)", desk.count(4), 4);
        checks.same("fuse(1, 1)", desk.fuse(1, 1), 1);
        checks.found("fuse(1, 1)", desk, 0, 190);
        checks.same("fuse(10, 0)", desk.fuse(10, 0), 3);
        checks.found("fuse(10, 0)", desk, 0, 100, 1, 90, 2, 83);
    }

    private static void sameByNumber(Checks checks) {
        NearDesk desk = new NearDesk();
        desk.put(10, 0, 0, 0, 2);
        desk.put(0, 0, 0, 0, 1);
        // LIST: 0, 1; SEARCH: 1, 0
        desk.fuse(2, 1);
        checks.found("fuse(2, 1)", desk, 0, 190, 1, 190);
        desk.fuse(1, 1);
        checks.found("fuse(1, 1)", desk, 0, 190);
    }

    private static void onlyTenOfEach(Checks checks) {
        // LIST: 0 to 9 (12 have the WORD). SEARCH: 19 down to 10.
        NearDesk desk = new NearDesk();
        for (int n = 0; n < 20; n++) {
            desk.put(n * 4, 0, 0, 0, n < 12 ? 1 : 0);
        }
        desk.ask(99, 0, 0, 0);
        checks.same("near(10, 10)", desk.near(10, 10), 10);
        checks.same("the tenth of the SEARCH", desk.found(9, 0), 10);
        checks.same("fuse(10, 1)", desk.fuse(10, 1), 10);
        checks.found("fuse(10, 1)", desk,
                0, 100, 19, 100, 1, 90, 18, 90, 2, 83, 17, 83, 3, 76, 16, 76, 4, 71, 15, 71);
    }

    private static void removedOnesAreInNeither(Checks checks) {
        NearDesk desk = three();
        desk.remove(0);
        desk.fuse(10, 1);
        // places are counted among the LIVE ones: LIST: 2. SEARCH: 1, 2
        checks.found("fuse(10, 1)", desk, 2, 100 + 90, 1, 100);
        NearDesk none = new NearDesk();
        checks.same("fuse(1, 255) of none", none.fuse(1, 255), 0);
        checks.same("count(4) of none", none.count(4), 0);
    }

    private static void wrongNumbersAreRefused(Checks checks) {
        NearDesk desk = three();
        desk.fuse(1, 1);
        int[] wrongK = {0, -1, 11, Integer.MIN_VALUE, Integer.MAX_VALUE};
        for (int k : wrongK) {
            checks.same("fuse(" + k + ", 1)", desk.fuse(k, 1), NearDesk.REFUSED);
        }
        int[] wrongSet = {-1, 256, Integer.MIN_VALUE, Integer.MAX_VALUE};
        for (int set : wrongSet) {
            checks.same("fuse(1, " + set + ")", desk.fuse(1, set), NearDesk.REFUSED);
        }
        checks.found("after REFUSED", desk, 0, 190);
        checks.same("count(4) after REFUSED", desk.count(4), 4);
    }
}
