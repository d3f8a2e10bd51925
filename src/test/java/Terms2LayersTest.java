import java.util.HashSet;
import java.util.Random;
import java.util.Set;

/** LEVELS, LAYERS, the lengths of the rows of NEIGHBOURS, the ENTRY and the TOP. */
public final class Terms2LayersTest {
    private static final int[] LEVELS = {
        0, 0, 1, 0, 0, 1, 0, 0, 2, 0, 0, 1, 0, 0, 1, 0, 0, 2, 0, 0, 1, 0, 0, 1, 0, 0, 3, 0, 0, 1};

    public static void main(String[] args) {
        Checks checks = new Checks();
        levelIsHowOftenThreeDivides(checks);
        levelsBeginAnewWithTheGraph(checks);
        inLayersZeroToItsLevel(checks);
        sixAtTheBottomAreNotTooMany(checks);
        sevenAtTheBottomAreTooMany(checks);
        threeAboveAreNotTooMany(checks);
        fourAboveAreTooMany(checks);
        sameDistancesInLongRows(checks);
        sameDistancesInLongRowsAbove(checks);
        fewInTheHighestLayers(checks);
        rowsHaveOtherNodesOfTheirLayer(checks);
        entryIsTheFirstWithTheGreatestLevel(checks);
        entryStaysThoughItIsRemoved(checks);
        checks.end();
    }

    /** "how many times i can be divided by 3 without remainder, but at most 3" */
    private static void levelIsHowOftenThreeDivides(Checks checks) {
        NearDesk desk = new NearDesk();
        for (int n = 0; n < 30; n++) {
            desk.put(n * 37 % 100, n * 11 % 100, n, 99 - n, 0);
            checks.same("node(" + n + ", 0)", desk.node(n, 0), LEVELS[n]);
            checks.same("node(" + n + ", 1)", desk.node(n, 1), n + 1);
        }
    }

    private static void levelsBeginAnewWithTheGraph(Checks checks) {
        NearDesk desk = Desks.full();
        for (int n = 0; n < 30; n += 2) {
            desk.remove(n);
        }
        desk.renew();
        for (int i = 0; i < 15; i++) {
            checks.same("node, 0, the " + i, desk.node(2 * i + 1, 0), LEVELS[i]);
        }
        for (int i = 15; i < 30; i++) {
            int n = desk.put(1, 2, 3, i, 0);
            checks.same("put into a gap", n, 2 * (i - 15));
            checks.same("its LEVEL", desk.node(n, 0), LEVELS[i]);
        }
    }

    /** "It is in LAYERS 0 to its LEVEL" */
    private static void inLayersZeroToItsLevel(Checks checks) {
        NearDesk desk = Desks.evenLine(30, 3);
        for (int n : new int[] {0, 2, 8, 26}) {
            for (int layer = 0; layer < 4; layer++) {
                boolean isIn = layer <= LEVELS[n];
                checks.same("node(" + n + ", " + (10 + layer) + ") is there",
                        desk.node(n, 10 + layer) >= 0, isIn);
                checks.same("NONE beyond", desk.node(n, 10 + layer) == NearDesk.NONE, !isIn);
            }
        }
    }

    /**
     * A middle, 0, and around it, ever nearer, +x, -x, +y, -y, +z, -z, +w: as numbers 1 to 7. Each one
     * of these has 0 as its NEAREST, so it becomes the last of the NEIGHBOURS of 0.
     */
    private static NearDesk around(int many) {
        int[][] all = {{90, 50, 50, 50}, {11, 50, 50, 50}, {50, 88, 50, 50}, {50, 13, 50, 50},
            {50, 50, 86, 50}, {50, 50, 15, 50}, {50, 50, 50, 84}};
        NearDesk desk = new NearDesk();
        desk.put(50, 50, 50, 50, 0);
        for (int i = 0; i < many; i++) {
            desk.put(all[i][0], all[i][1], all[i][2], all[i][3], 0);
        }
        return desk;
    }

    /** "at most 6 in LAYER 0": six stay as they came, they are not CHOSEN anew. */
    private static void sixAtTheBottomAreNotTooMany(Checks checks) {
        checks.row(around(5), 0, 0, 1, 2, 3, 4, 5);
        checks.row(around(6), 0, 0, 1, 2, 3, 4, 5, 6);
    }

    /** Each one is farther from all the others than from 0: the six NEAREST are CHOSEN, in that order. */
    private static void sevenAtTheBottomAreTooMany(Checks checks) {
        NearDesk desk = around(7);
        checks.row(desk, 0, 0, 7, 6, 5, 4, 3, 2);
        checks.same("1 still has 0", desk.neighbour(1, 0, 0), 0);
    }

    /** In LAYER 1, and ever nearer to 2: 5, 8, 11 and 14, in four directions; the others do not matter. */
    private static NearDesk aroundAbove(int many) {
        int[][] all = {{50, 50, 50, 50}, {90, 50, 50, 50}, {50, 89, 50, 50}, {50, 50, 88, 50},
            {50, 50, 50, 87}};
        NearDesk desk = new NearDesk();
        for (int n = 0; n < many; n++) {
            int[] v = n % 3 == 2 ? all[n / 3] : new int[] {n, 0, 0, 0};
            desk.put(v[0], v[1], v[2], v[3], 0);
        }
        return desk;
    }

    /** "at most 3 in others": three stay as they came. */
    private static void threeAboveAreNotTooMany(Checks checks) {
        NearDesk desk = aroundAbove(12);
        checks.row(desk, 2, 1, 5, 8, 11);
        checks.row(desk, 5, 1, 2, 8, 11);
        checks.row(desk, 8, 1, 2, 5, 11);
        checks.row(desk, 11, 1, 2, 8, 5);
    }

    private static void fourAboveAreTooMany(Checks checks) {
        NearDesk desk = aroundAbove(15);
        checks.row(desk, 14, 1, 2, 11, 8);
        checks.row(desk, 2, 1, 14, 11, 8);
        checks.row(desk, 11, 1, 2, 14, 8);
        checks.row(desk, 8, 1, 2, 14, 11);
        // 14 did not choose it; it has 2, which lost it
        checks.row(desk, 5, 1, 2, 8, 11);
    }

    private static void sameDistancesInLongRows(Checks checks) {
        NearDesk desk = Desks.star();
        checks.row(desk, 0, 0, 1, 2, 3, 4, 5, 6);
        checks.row(desk, 1, 0, 0, 3, 4, 5, 6, 7);
        checks.row(desk, 2, 0, 0, 3, 4, 5, 6, 7);
        for (int n = 3; n < 8; n++) {
            checks.row(desk, n, 0, 0, 1, 2);
        }
        checks.row(desk, 2, 1, 5);
        checks.row(desk, 5, 1, 2);
    }

    private static void sameDistancesInLongRowsAbove(Checks checks) {
        NearDesk desk = Desks.onePlace(15);
        checks.row(desk, 2, 1, 5, 8, 11);
        checks.row(desk, 5, 1, 2, 8, 11);
        checks.row(desk, 8, 1, 2, 5, 11);
        checks.row(desk, 11, 1, 2, 5, 8);
        checks.row(desk, 14, 1, 2, 5, 8);
    }

    /** Of thirty NODES three are in LAYER 2 and one is in LAYER 3. */
    private static void fewInTheHighestLayers(Checks checks) {
        NearDesk desk = Desks.evenLine(30, 3);
        checks.row(desk, 8, 2, 17, 26);
        checks.row(desk, 17, 2, 8, 26);
        checks.row(desk, 26, 2, 17, 8);
        checks.row(desk, 26, 3);
    }

    /** "a row of other NODES of that LAYER, at most 6 in LAYER 0, at most 3 in others" */
    private static void rowsHaveOtherNodesOfTheirLayer(Checks checks) {
        Random random = new Random(1);
        for (int run = 0; run < 60; run++) {
            int span = 1 + random.nextInt(20);
            int[][] vectors = new int[30][4];
            for (int[] v : vectors) {
                for (int i = 0; i < 4; i++) {
                    v[i] = random.nextInt(span);
                }
            }
            for (int n = 0; n < 30; n++) {
                NearDesk desk = new NearDesk();
                for (int[] v : vectors) {
                    desk.put(v[0], v[1], v[2], v[3], 0);
                }
                rowsAreRight(checks, desk, n);
            }
        }
    }

    private static void rowsAreRight(Checks checks, NearDesk desk, int n) {
        for (int layer = 0; layer <= LEVELS[n]; layer++) {
            int many = desk.node(n, 10 + layer);
            checks.isTrue("not too many", many <= (layer == 0 ? 6 : 3));
            Set<Integer> others = new HashSet<>();
            for (int i = 0; i < many; i++) {
                int other = desk.neighbour(n, layer, i);
                checks.isTrue("another one, and once", other != n && others.add(other));
                checks.isTrue("of that LAYER", desk.node(other, 0) >= layer);
            }
        }
    }

    /** "the first NODE that entered of those with the greatest LEVEL, which is the TOP" */
    private static void entryIsTheFirstWithTheGreatestLevel(Checks checks) {
        NearDesk desk = new NearDesk();
        checks.same("count(2) of none", desk.count(2), NearDesk.NONE);
        checks.same("count(3) of none", desk.count(3), NearDesk.NONE);
        for (int n = 0; n < 30; n++) {
            desk.put(n * 37 % 100, n * 11 % 100, n, 99 - n, 0);
            int entry = n < 2 ? 0 : n < 8 ? 2 : n < 26 ? 8 : 26;
            checks.same("count(2) after " + n, desk.count(2), entry);
            checks.same("count(3) after " + n, desk.count(3), LEVELS[entry]);
        }
    }

    private static void entryStaysThoughItIsRemoved(Checks checks) {
        NearDesk desk = Desks.evenLine(9, 10);
        desk.remove(8);
        checks.same("count(2), removed", desk.count(2), 8);
        checks.same("count(3), removed", desk.count(3), 2);
        desk.renew();
        checks.same("count(2), renewed", desk.count(2), 2);
        checks.same("count(3), renewed", desk.count(3), 1);
    }
}
