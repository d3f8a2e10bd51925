/**
 * The WALK, as a SEARCH shows it by what is FOUND and by how many were SEEN.
 *
 * <p>That it begins with more NODES than WIDTH never happens: one WALK holds at most as many as the
 * next one's WIDTH. That one which is HELD no more is still OPEN shows in no answer: it is farther
 * than each one HELD, so the WALK ends with it.
 */
public final class Terms3WalkTest {
    public static void main(String[] args) {
        Checks checks = new Checks();
        oneNodeAlone(checks);
        nearestOpenOneFirst(checks);
        asManyAsWidthAreHeld(checks);
        theFarthestHeldIsStillLookedAround(checks);
        fewerThanWidthAreHeld(checks);
        sameDistanceAsTheFarthestHeld(checks);
        endsAtTheSameDistance(checks);
        seenOnce(checks);
        aboveTheWidthIsOne(checks);
        checks.end();
    }

    /** "if none is OPEN it ends" */
    private static void oneNodeAlone(Checks checks) {
        for (int width = 1; width <= 10; width += 9) {
            NearDesk desk = Desks.line(7);
            checks.same("near(1, " + width + ")", desk.near(1, width), 1);
            checks.found("one alone", desk, 0, 49);
            checks.same("count(4)", desk.count(4), 1);
        }
    }

    /**
     * "the NEAREST OPEN one is OPEN no more": from 5, whose row is 2, 4, 1, the WALK goes to 4, which
     * leads to 3; 3 is OPEN later than 2, but goes before it, and so 0 is SEEN; with 2 the WALK ends.
     */
    private static void nearestOpenOneFirst(Checks checks) {
        NearDesk desk = Desks.line(0, 40, 50, 90, 70, 60);
        checks.row(desk, 5, 0, 2, 4, 1);
        checks.row(desk, 4, 0, 2, 3, 1, 5);
        checks.row(desk, 3, 0, 2, 1, 0, 4);
        desk.ask(80, 0, 0, 0);
        desk.near(3, 3);
        checks.found("near(3, 3)", desk, 3, 100, 4, 100, 5, 400);
        // 2 and 5 in LAYER 1
        checks.same("count(4)", desk.count(4), 2 + 6);
    }

    /** On the line of ten, asked at its beginning, the HELD ones are the first WIDTH. */
    private static void asManyAsWidthAreHeld(Checks checks) {
        for (int width = 1; width <= 10; width++) {
            NearDesk desk = Desks.evenLine(10, 10);
            checks.same("near(" + width + ", 1)", desk.near(width, 1), width);
            for (int i = 0; i < width; i++) {
                checks.same("found(" + i + ", 0)", desk.found(i, 0), i);
                checks.same("found(" + i + ", 1)", desk.found(i, 1), 100 * i * i);
            }
        }
    }

    /**
     * "if as many as WIDTH are HELD, and the farthest HELD one is NEARER than it": the farthest HELD
     * one itself does not end the WALK, so three behind it are SEEN. 1 is SEEN in LAYER 2 (8), 3 in
     * LAYER 1 (8, 5, 2); in LAYER 0 one begins with 2, whose row ends with 5.
     */
    private static void theFarthestHeldIsStillLookedAround(Checks checks) {
        int[] seen = {6, 6, 6, 7, 8, 9, 10, 10, 10, 10};
        for (int width = 1; width <= 10; width++) {
            NearDesk desk = Desks.evenLine(10, 10);
            desk.near(1, width);
            checks.same("count(4) with WIDTH " + width, desk.count(4), 1 + 3 + seen[width - 1]);
        }
    }

    /** "if fewer than WIDTH are HELD .. it is HELD": however far it is. */
    private static void fewerThanWidthAreHeld(Checks checks) {
        NearDesk desk = new NearDesk();
        desk.put(0, 0, 0, 0, 0);
        desk.put(99, 99, 99, 99, 0);
        checks.same("near(2, 1)", desk.near(2, 1), 2);
        checks.found("both", desk, 0, 0, 1, 39204);
        checks.same("near(10, 10) of ten", Desks.evenLine(10, 10).near(10, 10), 10);
        NearDesk nine = Desks.evenLine(9, 10);
        checks.same("near(10, 10) of nine", nine.near(10, 10), 9);
        NearDesk eleven = Desks.evenLine(11, 9);
        checks.same("near(10, 10) of eleven", eleven.near(10, 10), 10);
        checks.same("the tenth", eleven.found(9, 0), 9);
    }

    /**
     * "or it is NEARER than the farthest HELD one": with the same DISTANCE only if its number is less.
     * The WALK begins with 2, so 0 and 1 take its place, and 3 never does.
     */
    private static void sameDistanceAsTheFarthestHeld(Checks checks) {
        int[][] due = {{0, 100}, {0, 100, 1, 100}, {0, 100, 1, 100, 2, 100}, {0, 100, 1, 100, 2, 100, 3, 100}};
        for (int width = 1; width <= 4; width++) {
            NearDesk desk = new NearDesk();
            desk.put(60, 50, 50, 50, 0);
            desk.put(40, 50, 50, 50, 0);
            desk.put(50, 60, 50, 50, 0);
            desk.put(50, 40, 50, 50, 0);
            desk.ask(50, 50, 50, 50);
            desk.near(width, width);
            checks.found("WIDTH " + width, desk, due[width - 1]);
        }
    }

    /**
     * On a circle around the VECTOR ASKED: from 2, whose row is 1, 0, 3, 4, first 1 is HELD, then 0.
     * 1 is OPEN, with the same DISTANCE as 0, which is NEARER by its number: 5, which 1 alone of these
     * has, is not SEEN.
     */
    private static void endsAtTheSameDistance(Checks checks) {
        int[][] circle = {{65, 30}, {70, 65}, {75, 50}, {50, 75}, {30, 65}, {35, 70}};
        NearDesk desk = new NearDesk();
        for (int[] at : circle) {
            desk.put(at[0], at[1], 50, 50, 0);
        }
        checks.row(desk, 0, 0, 1, 2, 3);
        checks.row(desk, 1, 0, 0, 2, 3, 4, 5);
        checks.row(desk, 2, 0, 1, 0, 3, 4);
        desk.ask(50, 50, 50, 50);
        desk.near(1, 1);
        checks.found("near(1, 1)", desk, 0, 625);
        // 2 and 5 in LAYER 1
        checks.same("count(4)", desk.count(4), 2 + 5);
    }

    /** "each one that is not SEEN is SEEN now": the rows of three NODES name each one twice. */
    private static void seenOnce(Checks checks) {
        NearDesk desk = Desks.line(0, 10, 20);
        desk.near(3, 3);
        checks.found("near(3, 3)", desk, 0, 0, 1, 100, 2, 400);
        checks.same("count(4)", desk.count(4), 1 + 3);
    }

    /**
     * LAYER 2: 8. LAYER 1: 8, 2, 5, 11, of which 2 alone is HELD, whatever the WIDTH. LAYER 0: from 2
     * to seven; with two HELD in LAYER 1 one would begin with 8, too, which no row there has.
     */
    private static void aboveTheWidthIsOne(Checks checks) {
        for (int width = 1; width <= 10; width++) {
            NearDesk desk = Desks.onePlaceButOne(13);
            desk.ask(1, 1, 1, 1);
            desk.near(1, width);
            checks.same("count(4) with WIDTH " + width, desk.count(4), 1 + 4 + 7);
        }
    }
}
