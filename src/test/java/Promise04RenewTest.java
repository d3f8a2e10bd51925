public final class Promise04RenewTest {
    public static void main(String[] args) {
        Checks checks = new Checks();
        nodesGo(checks);
        numbersDecideTheOrder(checks);
        nothingIsLeft(checks);
        theRestStays(checks);
        checks.end();
    }

    private static void nodesGo(Checks checks) {
        NearDesk desk = Desks.line(60, 61, 30, 50, 0);
        desk.remove(0);
        desk.remove(4);
        checks.same("renew()", desk.renew(), 2);
        checks.same("renew() again", desk.renew(), 0);
        checks.same("count(0)", desk.count(0), 3);
        checks.same("count(1)", desk.count(1), 3);
        checks.same("node(0, 0)", desk.node(0, 0), NearDesk.NONE);
        checks.same("neighbour(0, 0, 0)", desk.neighbour(0, 0, 0), NearDesk.NONE);
        // 61, 30 and 50 entered as first, second and third
        int[] numbers = {1, 2, 3};
        int[] levels = {0, 0, 1};
        for (int i = 0; i < 3; i++) {
            checks.same("node(" + numbers[i] + ", 1)", desk.node(numbers[i], 1), i + 1);
            checks.same("node(" + numbers[i] + ", 0)", desk.node(numbers[i], 0), levels[i]);
        }
        checks.same("count(2)", desk.count(2), 3);
        checks.same("count(3)", desk.count(3), 1);
        checks.row(desk, 1, 0, 2, 3);
        checks.row(desk, 2, 0, 1, 3);
        checks.row(desk, 3, 0, 1, 2);
        checks.row(desk, 3, 1);
    }

    private static void numbersDecideTheOrder(Checks checks) {
        NearDesk desk = Desks.line(1, 2, 3, 4);
        desk.remove(0);
        desk.renew();
        desk.put(9, 0, 0, 0, 0);
        checks.same("node(0, 1), the latest", desk.node(0, 1), 4);
        desk.renew();
        checks.same("node(0, 1), now the first", desk.node(0, 1), 1);
        checks.same("node(3, 1)", desk.node(3, 1), 4);
        checks.same("count(2)", desk.count(2), 2);
    }

    private static void nothingIsLeft(Checks checks) {
        NearDesk desk = Desks.line(1, 2, 3);
        for (int n = 0; n < 3; n++) {
            desk.remove(n);
        }
        checks.same("renew()", desk.renew(), 3);
        checks.same("count(0)", desk.count(0), 0);
        checks.same("count(2)", desk.count(2), NearDesk.NONE);
        checks.same("count(3)", desk.count(3), NearDesk.NONE);
        checks.same("count(9)", desk.count(9), 0);
        checks.same("near(1, 1)", desk.near(1, 1), 0);
        checks.same("put", desk.put(1, 1, 1, 1, 1), 0);
        checks.same("count(2) then", desk.count(2), 0);
        checks.same("node(0, 1) then", desk.node(0, 1), 1);
    }

    private static void theRestStays(Checks checks) {
        NearDesk desk = Desks.line(0, 10, 20);
        desk.ask(10, 0, 0, 0);
        desk.near(2, 2);
        int searched = desk.count(4);
        desk.remove(0);
        desk.renew();
        checks.found("FOUND after renew", desk, 1, 0, 0, 100);
        checks.same("count(4) after renew", desk.count(4), searched);
        // three were SEEN before; 10 and 20 entered anew, the second of them saw the first
        checks.same("count(5) after renew", desk.count(5), 4);
        desk.exact(1);
        checks.found("the VECTOR ASKED after renew", desk, 1, 0);
        checks.same("node(2, 3)", desk.node(2, 3), 20);
    }
}
