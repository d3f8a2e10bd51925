public final class Promise06NearTest {
    public static void main(String[] args) {
        Checks checks = new Checks();
        nearestFirst(checks);
        widthMatters(checks);
        kWidens(checks);
        seenNodesAreCounted(checks);
        sameDistanceByNumber(checks);
        theGraphMayMiss(checks);
        wrongNumbersAreRefused(checks);
        withoutNodes(checks);
        checks.end();
    }

    private static void nearestFirst(Checks checks) {
        NearDesk desk = Desks.line(0, 10, 20);
        desk.ask(12, 0, 0, 0);
        checks.same("near(3, 3)", desk.near(3, 3), 3);
        checks.found("near(3, 3)", desk, 1, 4, 2, 64, 0, 144);
        checks.same("near(2, 10)", desk.near(2, 10), 2);
        checks.found("near(2, 10)", desk, 1, 4, 2, 64);
        checks.same("near(10, 1)", desk.near(10, 1), 3);
        desk.remove(1);
        checks.same("near(3, 3), one removed", desk.near(3, 3), 2);
        checks.found("near(3, 3), one removed", desk, 2, 64, 0, 144);
    }

    private static void widthMatters(Checks checks) {
        // a walk with WIDTH 1 holds only the removed one
        NearDesk desk = Desks.line(0, 10, 20);
        desk.ask(10, 0, 0, 0);
        desk.remove(1);
        checks.same("near(1, 1)", desk.near(1, 1), 0);
        checks.found("near(1, 1)", desk);
        checks.same("near(1, 2)", desk.near(1, 2), 1);
        checks.found("near(1, 2)", desk, 0, 100);
    }

    private static void kWidens(Checks checks) {
        NearDesk desk = Desks.line(0, 10, 20);
        desk.ask(10, 0, 0, 0);
        desk.remove(1);
        checks.same("near(2, 1)", desk.near(2, 1), 1);
        checks.same("near(3, 1)", desk.near(3, 1), 2);
        checks.found("near(3, 1)", desk, 0, 100, 2, 100);
    }

    private static void seenNodesAreCounted(Checks checks) {
        NearDesk desk = Desks.line(0, 10, 20);
        int entered = desk.count(5);
        desk.near(1, 1);
        // 2 alone in LAYER 1, and 2, 1, 0 in LAYER 0
        checks.same("count(4)", desk.count(4), 4);
        checks.same("count(5)", desk.count(5), entered);
        desk.near(1, 1);
        checks.same("count(4), twice", desk.count(4), 8);
    }

    private static void sameDistanceByNumber(Checks checks) {
        NearDesk desk = Desks.star();
        desk.ask(50, 50, 50, 50);
        desk.near(10, 10);
        checks.found("near(10, 10)", desk,
                0, 0, 1, 1600, 2, 1600, 3, 1600, 4, 1600, 5, 1600, 6, 1600, 7, 1600);
        desk.near(4, 4);
        checks.found("near(4, 4)", desk, 0, 0, 1, 1600, 2, 1600, 3, 1600);
    }

    private static void theGraphMayMiss(Checks checks) {
        // all in one place: each row keeps the least numbers, so the others are not come to
        NearDesk desk = new NearDesk();
        for (int n = 0; n < 12; n++) {
            desk.put(1, 1, 1, 1, 0);
        }
        desk.ask(1, 1, 1, 1);
        checks.same("near(10, 10)", desk.near(10, 10), 7);
        checks.same("exact(10)", desk.exact(10), 10);
    }

    private static void wrongNumbersAreRefused(Checks checks) {
        NearDesk desk = Desks.line(0, 10, 20);
        desk.near(1, 1);
        int seen = desk.count(4);
        int[] wrong = {0, -1, 11, 30, Integer.MIN_VALUE, Integer.MAX_VALUE};
        for (int number : wrong) {
            checks.same("near(" + number + ", 5)", desk.near(number, 5), NearDesk.REFUSED);
            checks.same("near(5, " + number + ")", desk.near(5, number), NearDesk.REFUSED);
        }
        checks.found("after REFUSED", desk, 0, 0);
        checks.same("count(4) after REFUSED", desk.count(4), seen);
    }

    private static void withoutNodes(Checks checks) {
        NearDesk desk = new NearDesk();
        checks.same("near(1, 1)", desk.near(1, 1), 0);
        checks.same("count(4)", desk.count(4), 0);
        NearDesk emptied = Desks.line(5);
        emptied.near(1, 1);
        emptied.remove(0);
        emptied.renew();
        checks.found("before", emptied, 0, 25);
        checks.same("near(1, 1) emptied", emptied.near(1, 1), 0);
        checks.found("after", emptied);
    }
}
