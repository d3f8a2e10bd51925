/** The SCORE itself is looked at in Terms7ScoreTest. */
public final class Promise08MatchTest {
    public static void main(String[] args) {
        Checks checks = new Checks();
        scores(checks);
        leastAndGreatestNumber(checks);
        kJustOutside(checks);
        setJustOutside(checks);
        farOff(checks);
        onlyTheFirstK(checks);
        firstTenOfMore(checks);
        fewerThanK(checks);
        noneToFind(checks);
        refusedChangesNothing(checks);
        theGraphIsNotAsked(checks);
        checks.end();
    }

    /** COUNTS as for put, for the WORDS 0, 1, .. in turn. */
    private static int counts(int... perWord) {
        int words = 0;
        for (int w = 0; w < perWord.length; w++) {
            words |= perWord[w] << 3 * w;
        }
        return words;
    }

    private static NearDesk withCounts(int... words) {
        NearDesk desk = new NearDesk();
        for (int counts : words) {
            desk.put(1, 1, 1, 1, counts);
        }
        return desk;
    }

    private static NearDesk five() {
        return withCounts(counts(1), counts(2, 3), counts(0, 7), counts(0, 0, 5), counts(1));
    }

    private static void scores(Checks checks) {
        NearDesk desk = five();
        // WORD 0: 3 of 5 have it, 1 + 5 / 3 = 2; WORD 1: 2 of 5, 1 + 5 / 2 = 3; WORD 2: 1 of 5, 6
        checks.same("match(10, 1)", desk.match(10, 1), 3);
        checks.found("match(10, 1)", desk, 1, 66 * 2, 0, 50 * 2, 4, 50 * 2);
        checks.same("match(10, 2)", desk.match(10, 2), 2);
        checks.found("match(10, 2)", desk, 2, 87 * 3, 1, 75 * 3);
        checks.same("match(10, 3)", desk.match(10, 3), 4);
        checks.found("match(10, 3)", desk, 1, 66 * 2 + 75 * 3, 2, 87 * 3, 0, 100, 4, 100);
        checks.same("match(10, 255)", desk.match(10, 255), 5);
        checks.found("match(10, 255)", desk, 3, 83 * 6, 1, 357, 2, 261, 0, 100, 4, 100);
    }

    private static void leastAndGreatestNumber(Checks checks) {
        NearDesk desk = new NearDesk();
        for (int n = 0; n < 30; n++) {
            desk.put(n, n, n, n, n == 0 || n == 29 ? 1 : 0);
        }
        checks.same("match(10, 1)", desk.match(10, 1), 2);
        checks.found("match(10, 1)", desk, 0, 50 * 16, 29, 50 * 16);
    }

    /** "k (1 to 10)", "REFUSED if a number is not as said" */
    private static void kJustOutside(Checks checks) {
        NearDesk desk = five();
        checks.same("match(-1, 1)", desk.match(-1, 1), NearDesk.REFUSED);
        checks.same("match(0, 1)", desk.match(0, 1), NearDesk.REFUSED);
        checks.same("match(1, 1)", desk.match(1, 1), 1);
        checks.same("match(10, 1)", desk.match(10, 1), 3);
        checks.same("match(11, 1)", desk.match(11, 1), NearDesk.REFUSED);
    }

    /** "a set of WORDS (0 to 255)" */
    private static void setJustOutside(Checks checks) {
        NearDesk desk = five();
        checks.same("match(10, -1)", desk.match(10, -1), NearDesk.REFUSED);
        checks.same("match(10, 0)", desk.match(10, 0), 0);
        checks.same("match(10, 255)", desk.match(10, 255), 5);
        checks.same("match(10, 256)", desk.match(10, 256), NearDesk.REFUSED);
        checks.same("match(10, 257)", desk.match(10, 257), NearDesk.REFUSED);
    }

    private static void farOff(Checks checks) {
        NearDesk desk = five();
        for (int far : Desks.FAR_OFF) {
            checks.same("match(" + far + ", 1)", desk.match(far, 1), NearDesk.REFUSED);
            checks.same("match(1, " + far + ")", desk.match(1, far), NearDesk.REFUSED);
        }
    }

    private static void onlyTheFirstK(Checks checks) {
        NearDesk desk = five();
        checks.same("match(2, 255)", desk.match(2, 255), 2);
        checks.found("match(2, 255)", desk, 3, 83 * 6, 1, 357);
        // 0 and 4 have the same SCORE: the lesser number has the last place
        checks.same("match(4, 255)", desk.match(4, 255), 4);
        checks.found("match(4, 255)", desk, 3, 83 * 6, 1, 357, 2, 261, 0, 100);
    }

    private static void firstTenOfMore(Checks checks) {
        NearDesk desk = new NearDesk();
        for (int n = 0; n < 30; n++) {
            desk.put(n, 0, 0, 0, n < 15 ? 1 : 2);
        }
        checks.same("match(10, 1)", desk.match(10, 1), 10);
        for (int i = 0; i < 10; i++) {
            checks.same("found(" + i + ", 0)", desk.found(i, 0), 15 + i);
            checks.same("found(" + i + ", 1)", desk.found(i, 1), 66 * 2);
        }
    }

    private static void fewerThanK(Checks checks) {
        NearDesk desk = five();
        checks.same("match(3, 2)", desk.match(3, 2), 2);
        checks.same("match(2, 2)", desk.match(2, 2), 2);
        checks.same("match(2, 4)", desk.match(2, 4), 1);
    }

    private static void noneToFind(Checks checks) {
        NearDesk desk = five();
        desk.match(10, 1);
        checks.same("match(10, 248), no one has these", desk.match(10, 248), 0);
        checks.found("nothing any more", desk);
        checks.same("match(1, 255) of none", new NearDesk().match(1, 255), 0);
    }

    private static void refusedChangesNothing(Checks checks) {
        NearDesk desk = five();
        desk.match(1, 2);
        desk.match(0, 1);
        desk.match(11, 1);
        desk.match(1, -1);
        desk.match(1, 256);
        checks.found("after REFUSED", desk, 2, 87 * 3);
    }

    private static void theGraphIsNotAsked(Checks checks) {
        NearDesk desk = five();
        desk.match(10, 255);
        checks.same("count(4)", desk.count(4), 0);
    }
}
