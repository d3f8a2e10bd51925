public final class Promise06NearTest {
    public static void main(String[] args) {
        Checks checks = new Checks();
        nearestFirst(checks);
        leastAndGreatestNumber(checks);
        leastAndGreatestK(checks);
        leastAndGreatestWidth(checks);
        kJustOutside(checks);
        widthJustOutside(checks);
        farOff(checks);
        kIfThatIsMore(checks);
        onlyTheFirstK(checks);
        fewerThanK(checks);
        noneToFind(checks);
        sameDistanceByNumber(checks);
        valuesAreOfTheTimeOfTheCall(checks);
        refusedChangesNothing(checks);
        seenIsCountedForSearches(checks);
        checks.end();
    }

    private static void nearestFirst(Checks checks) {
        NearDesk desk = Desks.line(0, 10, 20);
        desk.ask(12, 0, 0, 0);
        checks.same("near(3, 3)", desk.near(3, 3), 3);
        checks.found("near(3, 3)", desk, 1, 4, 2, 64, 0, 144);
    }

    private static void leastAndGreatestNumber(Checks checks) {
        NearDesk desk = Desks.evenLine(30, 3);
        desk.ask(99, 0, 0, 0);
        desk.near(1, 1);
        checks.found("at the end", desk, 29, 144);
        desk.ask(80, 0, 0, 0);
        desk.near(4, 4);
        checks.found("before the end", desk, 27, 1, 26, 4, 28, 16, 25, 25);
        desk.near(5, 5);
        checks.same("the fifth", desk.found(4, 0), 29);
        checks.same("its VALUE", desk.found(4, 1), 49);
        desk.ask(0, 0, 0, 0);
        desk.near(1, 1);
        checks.found("at the beginning", desk, 0, 0);
    }

    private static void leastAndGreatestK(Checks checks) {
        NearDesk desk = Desks.evenLine(12, 9);
        checks.same("near(1, 5)", desk.near(1, 5), 1);
        checks.found("near(1, 5)", desk, 0, 0);
        checks.same("near(10, 5)", desk.near(10, 5), 10);
        checks.same("the tenth", desk.found(9, 0), 9);
        checks.same("none behind", desk.found(10, 0), NearDesk.NONE);
    }

    /** With WIDTH 1 the removed one alone is HELD; with WIDTH 10 the others are, too. */
    private static void leastAndGreatestWidth(Checks checks) {
        NearDesk desk = Desks.line(0, 10, 20);
        desk.ask(10, 0, 0, 0);
        desk.remove(1);
        checks.same("near(1, 1)", desk.near(1, 1), 0);
        checks.found("near(1, 1)", desk);
        checks.same("near(1, 10)", desk.near(1, 10), 1);
        checks.found("near(1, 10)", desk, 0, 100);
    }

    /** "k (1 to 10)", "REFUSED if a number is not as said" */
    private static void kJustOutside(Checks checks) {
        NearDesk desk = Desks.line(0, 10, 20);
        checks.same("near(0, 5)", desk.near(0, 5), NearDesk.REFUSED);
        checks.same("near(1, 5)", desk.near(1, 5), 1);
        checks.same("near(10, 5)", desk.near(10, 5), 3);
        checks.same("near(11, 5)", desk.near(11, 5), NearDesk.REFUSED);
        checks.same("near(-1, 5)", desk.near(-1, 5), NearDesk.REFUSED);
    }

    /** "width (1 to 10; ..)": not even where k is more. */
    private static void widthJustOutside(Checks checks) {
        NearDesk desk = Desks.line(0, 10, 20);
        checks.same("near(5, 0)", desk.near(5, 0), NearDesk.REFUSED);
        checks.same("near(5, 1)", desk.near(5, 1), 3);
        checks.same("near(5, 10)", desk.near(5, 10), 3);
        checks.same("near(5, 11)", desk.near(5, 11), NearDesk.REFUSED);
        checks.same("near(5, -1)", desk.near(5, -1), NearDesk.REFUSED);
    }

    private static void farOff(Checks checks) {
        NearDesk desk = Desks.line(0, 10, 20);
        for (int far : Desks.FAR_OFF) {
            checks.same("near(" + far + ", 5)", desk.near(far, 5), NearDesk.REFUSED);
            checks.same("near(5, " + far + ")", desk.near(5, far), NearDesk.REFUSED);
            checks.same("near(" + far + ", " + far + ")", desk.near(far, far), NearDesk.REFUSED);
        }
    }

    /** "k, if that is more": the greater of both decides how many are SEEN (see Terms3WalkTest). */
    private static void kIfThatIsMore(Checks checks) {
        int[] seen = {6, 6, 6, 7, 8, 9, 10, 10, 10, 10};
        for (int k = 1; k <= 10; k++) {
            for (int width = 1; width <= 10; width++) {
                NearDesk desk = Desks.evenLine(10, 10);
                checks.same("near(" + k + ", " + width + ")", desk.near(k, width), k);
                checks.same("count(4)", desk.count(4), 1 + 3 + seen[Math.max(k, width) - 1]);
            }
        }
    }

    private static void onlyTheFirstK(Checks checks) {
        NearDesk desk = Desks.line(0, 10, 20);
        desk.ask(12, 0, 0, 0);
        checks.same("near(2, 10)", desk.near(2, 10), 2);
        checks.found("near(2, 10)", desk, 1, 4, 2, 64);
        // the LIVE ones are counted, not the places
        desk.remove(1);
        checks.same("near(2, 10), the first removed", desk.near(2, 10), 2);
        checks.found("near(2, 10), the first removed", desk, 2, 64, 0, 144);
    }

    private static void fewerThanK(Checks checks) {
        NearDesk desk = Desks.line(0, 10, 20);
        checks.same("near(4, 4)", desk.near(4, 4), 3);
        desk.remove(0);
        checks.same("near(3, 3)", desk.near(3, 3), 2);
        checks.found("near(3, 3)", desk, 1, 100, 2, 400);
    }

    private static void noneToFind(Checks checks) {
        NearDesk none = new NearDesk();
        checks.same("near(1, 1) of none", none.near(1, 1), 0);
        checks.same("count(4)", none.count(4), 0);
        NearDesk emptied = Desks.line(5);
        emptied.near(1, 1);
        emptied.remove(0);
        checks.found("before", emptied, 0, 25);
        checks.same("near(1, 1), none LIVE", emptied.near(1, 1), 0);
        checks.found("nothing any more", emptied);
    }

    private static void sameDistanceByNumber(Checks checks) {
        NearDesk desk = Desks.star();
        desk.ask(50, 50, 50, 50);
        desk.near(10, 10);
        checks.found("near(10, 10)", desk,
                0, 0, 1, 1600, 2, 1600, 3, 1600, 4, 1600, 5, 1600, 6, 1600, 7, 1600);
        desk.near(4, 4);
        checks.found("near(4, 4)", desk, 0, 0, 1, 1600, 2, 1600, 3, 1600);
    }

    private static void valuesAreOfTheTimeOfTheCall(Checks checks) {
        NearDesk desk = Desks.line(3);
        desk.near(1, 1);
        desk.ask(3, 0, 0, 0);
        checks.found("asked anew", desk, 0, 9);
        desk.near(1, 1);
        checks.found("found anew", desk, 0, 0);
    }

    private static void refusedChangesNothing(Checks checks) {
        NearDesk desk = Desks.line(0, 10, 20);
        desk.near(1, 1);
        int seen = desk.count(4);
        for (int wrong : new int[] {0, -1, 11, 30}) {
            desk.near(wrong, 5);
            desk.near(5, wrong);
        }
        checks.found("after REFUSED", desk, 0, 0);
        checks.same("count(4) after REFUSED", desk.count(4), seen);
    }

    private static void seenIsCountedForSearches(Checks checks) {
        NearDesk desk = Desks.line(0, 10, 20);
        int entered = desk.count(5);
        desk.near(1, 1);
        // 2 alone in LAYER 1, and 2, 1, 0 in LAYER 0
        checks.same("count(4)", desk.count(4), 4);
        checks.same("count(5)", desk.count(5), entered);
        desk.near(1, 1);
        checks.same("count(4), twice", desk.count(4), 8);
    }
}
