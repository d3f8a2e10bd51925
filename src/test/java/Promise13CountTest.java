public final class Promise13CountTest {
    public static void main(String[] args) {
        Checks checks = new Checks();
        nodesAndLive(checks);
        amongTheNearest(checks);
        oneSidedPairs(checks);
        comeTo(checks);
        wrongNumbers(checks);
        checks.end();
    }

    private static void nodesAndLive(Checks checks) {
        NearDesk desk = Desks.line(0, 10, 20);
        desk.remove(0);
        checks.same("count(0)", desk.count(0), 3);
        checks.same("count(1)", desk.count(1), 2);
        checks.same("count(2)", desk.count(2), 2);
        checks.same("count(3)", desk.count(3), 1);
        checks.same("count(6), nothing yet", desk.count(6), 0);
        desk.near(3, 3);
        checks.same("count(6)", desk.count(6), 2);
        // 0 saw none; 1 saw 0; 2 saw 0 and 1
        checks.same("count(5)", desk.count(5), 3);
        // 3 sees 2 in LAYER 1 and all three in LAYER 0
        desk.put(30, 0, 0, 0, 0);
        checks.same("count(5), one more", desk.count(5), 7);
    }

    private static void amongTheNearest(Checks checks) {
        NearDesk desk = Desks.line(0, 10, 20, 30);
        checks.same("count(7), nothing FOUND", desk.count(7), 0);
        desk.exact(2);
        checks.same("count(7)", desk.count(7), 2);
        desk.ask(14, 0, 0, 0);
        checks.same("count(7), asked anew", desk.count(7), 1);
        desk.ask(30, 0, 0, 0);
        checks.same("count(7), far away", desk.count(7), 0);
        checks.found("FOUND stays", desk, 0, 0, 1, 100);
        desk.ask(0, 0, 0, 0);
        desk.remove(0);
        checks.same("count(7), one removed", desk.count(7), 1);
        desk.renew();
        desk.put(1, 0, 0, 0, 0);
        checks.same("count(7), its number put anew", desk.count(7), 2);
        desk.exact(4);
        desk.remove(0);
        desk.remove(1);
        checks.same("count(7), fewer LIVE than FOUND", desk.count(7), 2);
    }

    private static void oneSidedPairs(Checks checks) {
        NearDesk desk = Desks.line(0, 10, 20);
        checks.same("count(8), all returned", desk.count(8), 0);
        // 7 has 0, which lost it; 1 and 2 lost one another
        NearDesk star = Desks.star();
        checks.same("count(8)", star.count(8), 1);
        star.remove(7);
        checks.same("count(8), removed nodes too", star.count(8), 1);
        star.renew();
        checks.same("count(8), renewed", star.count(8), 0);
    }

    private static void comeTo(Checks checks) {
        checks.same("count(9)", Desks.star().count(9), 8);
        checks.same("count(9), one alone", Desks.line(5).count(9), 1);
        NearDesk desk = new NearDesk();
        for (int n = 0; n < 12; n++) {
            desk.put(1, 1, 1, 1, 0);
        }
        // rows keep the least numbers: from 8, the ENTRY, to 0, 1, 2 and from those to 3, 4, 5, 6
        checks.same("count(9), all in one place", desk.count(9), 8);
        desk.remove(8);
        checks.same("count(9), removed nodes too", desk.count(9), 8);
    }

    private static void wrongNumbers(Checks checks) {
        NearDesk desk = Desks.line(0, 10, 20);
        int[] wrong = {-1, 10, 11, Integer.MIN_VALUE, Integer.MAX_VALUE};
        for (int what : wrong) {
            checks.same("count(" + what + ")", desk.count(what), NearDesk.REFUSED);
        }
    }
}
