public final class Promise08MatchTest {
    public static void main(String[] args) {
        Checks checks = new Checks();
        scores(checks);
        eachWordHasItsBits(checks);
        removedOnesCountNoMore(checks);
        firstTenOfMore(checks);
        wrongNumbersAreRefused(checks);
        checks.end();
    }

    /** COUNTS as for put, for the WORDS 0, 1, .. in turn. */
    private static int counts(int... perWord) {
        int words = 0;
        for (int w = 0; w < perWord.length; w++) {
            words |= perWord[w] << 3 * w;
        }
        return words;
    }

    private static NearDesk withCounts(int... words) {
        NearDesk desk = new NearDesk();
        for (int counts : words) {
            desk.put(1, 1, 1, 1, counts);
        }
        return desk;
    }

    private static void scores(Checks checks) {
        NearDesk desk = withCounts(counts(1), counts(2, 3), counts(0, 7), counts(0, 0, 5), counts(1));
        // WORD 0: 3 of 5 have it, 1 + 5 / 3 = 2; WORD 1: 2 of 5, 1 + 5 / 2 = 3; WORD 2: 1 of 5, 6
        checks.same("match(10, 1)", desk.match(10, 1), 3);
        checks.found("match(10, 1)", desk, 1, 66 * 2, 0, 50 * 2, 4, 50 * 2);
        checks.same("match(10, 2)", desk.match(10, 2), 2);
        checks.found("match(10, 2)", desk, 2, 87 * 3, 1, 75 * 3);
        checks.same("match(10, 3)", desk.match(10, 3), 4);
        checks.found("match(10, 3)", desk, 1, 66 * 2 + 75 * 3, 2, 87 * 3, 0, 100, 4, 100);
        checks.same("match(10, 255)", desk.match(10, 255), 5);
        checks.found("match(10, 255)", desk, 3, 83 * 6, 1, 357, 2, 261, 0, 100, 4, 100);
        checks.same("match(2, 255)", desk.match(2, 255), 2);
        checks.found("match(2, 255)", desk, 3, 83 * 6, 1, 357);
        checks.same("match(10, 0)", desk.match(10, 0), 0);
        checks.found("match(10, 0)", desk);
        checks.same("match(10, 8)", desk.match(10, 8), 0);
    }

    private static void eachWordHasItsBits(Checks checks) {
        int[] parts = {0, 50, 66, 75, 80, 83, 85, 87};
        for (int w = 0; w < 8; w++) {
            for (int c = 1; c < 8; c++) {
                NearDesk desk = withCounts(c << 3 * w);
                checks.same("match of WORD " + w, desk.match(1, 1 << w), 1);
                checks.found("COUNT " + c + " of WORD " + w, desk, 0, parts[c] * 2);
                checks.same("match of the other WORDS", desk.match(1, 255 - (1 << w)), 0);
            }
        }
    }

    private static void removedOnesCountNoMore(Checks checks) {
        NearDesk desk = withCounts(counts(1), counts(1), 0, 0);
        desk.match(10, 1);
        checks.found("before", desk, 0, 50 * 3, 1, 50 * 3);
        desk.remove(0);
        desk.match(10, 1);
        checks.found("one with it removed", desk, 1, 50 * 4);
        desk.remove(2);
        desk.match(10, 1);
        checks.found("one without it removed", desk, 1, 50 * 3);
        desk.remove(1);
        checks.same("match, none has it", desk.match(10, 1), 0);
    }

    private static void firstTenOfMore(Checks checks) {
        NearDesk desk = new NearDesk();
        for (int n = 0; n < 30; n++) {
            desk.put(n, 0, 0, 0, n < 15 ? 1 : 2);
        }
        checks.same("match(10, 1)", desk.match(10, 1), 10);
        for (int i = 0; i < 10; i++) {
            checks.same("found(" + i + ", 0)", desk.found(i, 0), 15 + i);
        }
        checks.same("match(1, 1)", desk.match(1, 1), 1);
    }

    private static void wrongNumbersAreRefused(Checks checks) {
        NearDesk desk = withCounts(counts(1), counts(2));
        desk.match(1, 1);
        int[] wrongK = {0, -1, 11, Integer.MIN_VALUE, Integer.MAX_VALUE};
        for (int k : wrongK) {
            checks.same("match(" + k + ", 1)", desk.match(k, 1), NearDesk.REFUSED);
        }
        int[] wrongSet = {-1, 256, 257, Integer.MIN_VALUE, Integer.MAX_VALUE};
        for (int set : wrongSet) {
            checks.same("match(1, " + set + ")", desk.match(1, set), NearDesk.REFUSED);
        }
        checks.found("after REFUSED", desk, 1, 66 * 2);
    }
}
