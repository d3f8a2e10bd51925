/** The numbers of DOCUMENTS, their VECTORS and COUNTS, DISTANCE, NEARER, LIVE and NODE. */
public final class Terms1DocumentsTest {
    public static void main(String[] args) {
        Checks checks = new Checks();
        numbersAreZeroToTwentyNine(checks);
        leastAndGreatestCoordinates(checks);
        leastAndGreatestCounts(checks);
        leastAndGreatestDistance(checks);
        eachCoordinateCounts(checks);
        sameDistanceLesserNumber(checks);
        sameDistanceLesserNumberThoughItEnteredLater(checks);
        lesserDistanceGoesBeforeLesserNumber(checks);
        liveUntilRemovedNodeUntilRenewed(checks);
        checks.end();
    }

    /** "DOCUMENTS are numbered 0 to 29." */
    private static void numbersAreZeroToTwentyNine(Checks checks) {
        NearDesk desk = new NearDesk();
        checks.same("the first put", desk.put(0, 0, 0, 0, 0), 0);
        for (int n = 1; n < 29; n++) {
            desk.put(n, 0, 0, 0, 0);
        }
        checks.same("the thirtieth put", desk.put(29, 0, 0, 0, 0), 29);
        checks.same("node(0, 3)", desk.node(0, 3), 0);
        checks.same("node(29, 3)", desk.node(29, 3), 29);
        checks.same("node(-1, 3)", desk.node(-1, 3), NearDesk.NONE);
        checks.same("node(30, 3)", desk.node(30, 3), NearDesk.NONE);
        checks.same("remove(-1)", desk.remove(-1), false);
        checks.same("remove(30)", desk.remove(30), false);
        checks.same("remove(0)", desk.remove(0), true);
        checks.same("remove(29)", desk.remove(29), true);
    }

    /** "a VECTOR of four COORDINATES (0 to 99)" */
    private static void leastAndGreatestCoordinates(Checks checks) {
        for (int at = 0; at < 4; at++) {
            int[] v = {50, 50, 50, 50};
            for (int edge : new int[] {0, 99}) {
                v[at] = edge;
                NearDesk desk = new NearDesk();
                checks.same("put with " + edge, desk.put(v[0], v[1], v[2], v[3], 0), 0);
                for (int i = 0; i < 4; i++) {
                    checks.same("COORDINATE " + i, desk.node(0, 3 + i), v[i]);
                }
            }
        }
    }

    /** "for each of the WORDS 0 to 7 a COUNT (0 to 7)" */
    private static void leastAndGreatestCounts(Checks checks) {
        for (int w = 0; w < 8; w++) {
            NearDesk desk = new NearDesk();
            desk.put(0, 0, 0, 0, 7 << 3 * w);
            desk.put(0, 0, 0, 0, 16777215 - (7 << 3 * w));
            checks.same("node(0, 7)", desk.node(0, 7), 7 << 3 * w);
            checks.same("match of WORD " + w, desk.match(10, 1 << w), 1);
            checks.found("only the one with COUNT 7", desk, 0, 87 * 3);
            checks.same("match of the others", desk.match(10, 255 - (1 << w)), 1);
            checks.found("only the one with COUNT 0", desk, 1, 7 * 87 * 3);
        }
    }

    /** "the sum of the squares of the differences": none at all, and four times 99. */
    private static void leastAndGreatestDistance(Checks checks) {
        NearDesk desk = new NearDesk();
        desk.put(0, 0, 0, 0, 0);
        desk.put(99, 99, 99, 99, 0);
        desk.exact(2);
        checks.found("from the least", desk, 0, 0, 1, 39204);
        desk.ask(99, 99, 99, 99);
        desk.exact(2);
        checks.found("from the greatest", desk, 1, 0, 0, 39204);
        desk.near(2, 2);
        checks.found("from the greatest, by the GRAPH", desk, 1, 0, 0, 39204);
    }

    private static void eachCoordinateCounts(Checks checks) {
        int[] steps = {1, 2, 3, 4};
        for (int at = 0; at < 4; at++) {
            for (int sign = -1; sign <= 1; sign += 2) {
                int[] v = {50, 50, 50, 50};
                v[at] += sign * steps[at];
                NearDesk desk = new NearDesk();
                desk.put(v[0], v[1], v[2], v[3], 0);
                desk.ask(50, 50, 50, 50);
                desk.exact(1);
                checks.found("one COORDINATE differs", desk, 0, steps[at] * steps[at]);
            }
        }
    }

    /** "with the same that with the lesser number" */
    private static void sameDistanceLesserNumber(Checks checks) {
        NearDesk desk = fourAround();
        for (int k = 1; k <= 4; k++) {
            int[] due = new int[2 * k];
            for (int i = 0; i < k; i++) {
                due[2 * i] = i;
                due[2 * i + 1] = 100;
            }
            desk.exact(k);
            checks.found("exact(" + k + ")", desk, due);
            desk.near(k, k);
            checks.found("near(" + k + ", " + k + ")", desk, due);
        }
    }

    private static NearDesk fourAround() {
        NearDesk desk = new NearDesk();
        desk.put(60, 50, 50, 50, 0);
        desk.put(40, 50, 50, 50, 0);
        desk.put(50, 60, 50, 50, 0);
        desk.put(50, 40, 50, 50, 0);
        desk.ask(50, 50, 50, 50);
        return desk;
    }

    private static void sameDistanceLesserNumberThoughItEnteredLater(Checks checks) {
        NearDesk desk = fourAround();
        desk.remove(0);
        desk.renew();
        desk.put(50, 50, 60, 50, 0);
        checks.same("node(0, 1)", desk.node(0, 1), 4);
        desk.exact(1);
        checks.found("exact(1)", desk, 0, 100);
        desk.near(1, 1);
        checks.found("near(1, 1)", desk, 0, 100);
        desk.near(4, 4);
        checks.found("near(4, 4)", desk, 0, 100, 1, 100, 2, 100, 3, 100);
    }

    private static void lesserDistanceGoesBeforeLesserNumber(Checks checks) {
        NearDesk desk = Desks.line(11, 10);
        desk.exact(2);
        checks.found("exact(2)", desk, 1, 100, 0, 121);
        desk.near(2, 2);
        checks.found("near(2, 2)", desk, 1, 100, 0, 121);
    }

    /** "LIVE until it is removed; it is a NODE of the GRAPH until the GRAPH is made anew after that" */
    private static void liveUntilRemovedNodeUntilRenewed(Checks checks) {
        NearDesk desk = Desks.line(0, 10);
        desk.renew();
        checks.same("LIVE, after a renew", desk.node(1, 2), 1);
        desk.remove(1);
        checks.same("a NODE, but not LIVE", desk.node(1, 2), 0);
        checks.same("it has a NEIGHBOUR", desk.neighbour(1, 0, 0), 0);
        checks.same("it is one", desk.neighbour(0, 0, 0), 1);
        desk.renew();
        checks.same("no NODE", desk.node(1, 2), NearDesk.NONE);
        checks.same("no NEIGHBOUR", desk.neighbour(0, 0, 0), NearDesk.NONE);
    }
}
