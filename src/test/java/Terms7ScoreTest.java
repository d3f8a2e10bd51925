/** The SCORE for a set of WORDS, and the LIST. */
public final class Terms7ScoreTest {
    private static final int[] PARTS = {0, 50, 66, 75, 80, 83, 85, 87};

    public static void main(String[] args) {
        Checks checks = new Checks();
        eachCountOfEachWord(checks);
        countOfNothing(checks);
        allHaveTheWord(checks);
        oneOfThirtyHasTheWord(checks);
        theGreatestScore(checks);
        withoutRemainder(checks);
        onlyWordsOfTheSet(checks);
        emptySet(checks);
        onlyLiveOnesCount(checks);
        sameScoreByNumber(checks);
        greatestFirst(checks);
        noDocuments(checks);
        checks.end();
    }

    private static NearDesk withWords(int... words) {
        NearDesk desk = new NearDesk();
        for (int counts : words) {
            desk.put(1, 1, 1, 1, counts);
        }
        return desk;
    }

    /** "100 * c / (c + 1)", "without remainder", for COUNTS 1 to 7 of WORDS 0 to 7. */
    private static void eachCountOfEachWord(Checks checks) {
        for (int w = 0; w < 8; w++) {
            for (int c = 1; c < 8; c++) {
                NearDesk desk = withWords(c << 3 * w);
                checks.same("match of WORD " + w, desk.match(1, 1 << w), 1);
                checks.found("COUNT " + c + " of WORD " + w, desk, 0, PARTS[c] * 2);
                checks.same("match of the other WORDS", desk.match(1, 255 - (1 << w)), 0);
            }
        }
    }

    /** "that it has (a COUNT c above 0)", "a SCORE above 0" */
    private static void countOfNothing(Checks checks) {
        NearDesk desk = withWords(0, 1, 0);
        checks.same("match(10, 1)", desk.match(10, 1), 1);
        checks.found("match(10, 1)", desk, 1, 50 * 4);
        checks.same("match(10, 2)", desk.match(10, 2), 0);
        checks.found("match(10, 2)", desk);
    }

    /** N / n is 1, with one and with thirty. */
    private static void allHaveTheWord(Checks checks) {
        NearDesk one = withWords(7);
        one.match(1, 1);
        checks.found("the one", one, 0, 87 * 2);
        NearDesk desk = new NearDesk();
        for (int n = 0; n < 30; n++) {
            desk.put(n, n, n, n, 1);
        }
        desk.match(2, 1);
        checks.found("two of thirty", desk, 0, 50 * 2, 1, 50 * 2);
    }

    private static NearDesk thirtyOfWhich(int n, int words) {
        NearDesk desk = new NearDesk();
        for (int i = 0; i < 30; i++) {
            desk.put(i, i, i, i, i == n ? words : 0);
        }
        return desk;
    }

    private static void oneOfThirtyHasTheWord(Checks checks) {
        for (int n : new int[] {0, 29}) {
            NearDesk desk = thirtyOfWhich(n, 7);
            checks.same("match(10, 1)", desk.match(10, 1), 1);
            checks.found("match(10, 1)", desk, n, 87 * 31);
        }
    }

    private static void theGreatestScore(Checks checks) {
        NearDesk desk = thirtyOfWhich(29, 16777215);
        desk.match(1, 255);
        checks.found("match(1, 255)", desk, 29, 8 * 87 * 31);
    }

    /** N / n: 3 / 2 is 1; 4 / 2 is 2; 5 / 2 is 2; 5 / 3 is 1. */
    private static void withoutRemainder(Checks checks) {
        NearDesk desk = withWords(1, 1, 0);
        desk.match(1, 1);
        checks.found("3 / 2", desk, 0, 50 * 2);
        desk.put(1, 1, 1, 1, 0);
        desk.match(1, 1);
        checks.found("4 / 2", desk, 0, 50 * 3);
        desk.put(1, 1, 1, 1, 0);
        desk.match(1, 1);
        checks.found("5 / 2", desk, 0, 50 * 3);
        desk.remove(4);
        desk.put(1, 1, 1, 1, 1);
        desk.match(1, 1);
        checks.found("5 / 3", desk, 0, 50 * 2);
    }

    private static void onlyWordsOfTheSet(Checks checks) {
        // WORD 0: one of two, 1 + 2; WORD 7: both, 1 + 1
        NearDesk desk = withWords(1 | 2 << 21, 3 << 21);
        desk.match(10, 1);
        checks.found("WORD 0", desk, 0, 50 * 3);
        desk.match(10, 128);
        checks.found("WORD 7", desk, 1, 75 * 2, 0, 66 * 2);
        desk.match(10, 129);
        checks.found("both", desk, 0, 50 * 3 + 66 * 2, 1, 75 * 2);
        desk.match(10, 126);
        checks.found("the WORDS between", desk);
    }

    private static void emptySet(Checks checks) {
        NearDesk desk = withWords(16777215, 1);
        checks.same("match(10, 255)", desk.match(10, 255), 2);
        checks.same("match(10, 0)", desk.match(10, 0), 0);
        checks.found("match(10, 0)", desk);
    }

    /** "N is how many DOCUMENTS are LIVE, n how many of these have w" */
    private static void onlyLiveOnesCount(Checks checks) {
        NearDesk desk = withWords(1, 1, 0, 0);
        desk.match(10, 1);
        checks.found("before", desk, 0, 50 * 3, 1, 50 * 3);
        desk.remove(0);
        desk.match(10, 1);
        checks.found("one with it removed", desk, 1, 50 * 4);
        desk.remove(2);
        desk.match(10, 1);
        checks.found("one without it removed", desk, 1, 50 * 3);
        desk.renew();
        desk.match(10, 1);
        checks.found("renewed", desk, 1, 50 * 3);
        desk.remove(1);
        checks.same("match, none has it", desk.match(10, 1), 0);
        checks.found("match, none has it", desk);
    }

    /** "those with the same by their numbers", whatever their WORDS are. */
    private static void sameScoreByNumber(Checks checks) {
        // each WORD in two of four
        NearDesk desk = withWords(8, 1, 8, 1);
        checks.same("match(10, 3)", desk.match(10, 3), 4);
        checks.found("match(10, 3)", desk, 0, 150, 1, 150, 2, 150, 3, 150);
        desk.match(3, 3);
        checks.found("match(3, 3)", desk, 0, 150, 1, 150, 2, 150);
    }

    private static void greatestFirst(Checks checks) {
        NearDesk desk = withWords(1, 2, 3, 7, 6, 5, 4);
        checks.same("match(10, 1)", desk.match(10, 1), 7);
        checks.found("match(10, 1)", desk,
                3, 87 * 2, 4, 85 * 2, 5, 83 * 2, 6, 80 * 2, 2, 75 * 2, 1, 66 * 2, 0, 50 * 2);
    }

    private static void noDocuments(Checks checks) {
        NearDesk desk = new NearDesk();
        checks.same("match(10, 255)", desk.match(10, 255), 0);
        NearDesk emptied = withWords(1, 1);
        emptied.remove(0);
        emptied.remove(1);
        checks.same("match, none is LIVE", emptied.match(10, 255), 0);
    }
}
