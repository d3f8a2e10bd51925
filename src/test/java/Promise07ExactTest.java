public final class Promise07ExactTest {
    public static void main(String[] args) {
        Checks checks = new Checks();
        NearDesk desk = Desks.line(30, 10, 20, 10, 40);
        desk.ask(20, 0, 0, 0);
        int seen = desk.count(4);
        checks.same("exact(10)", desk.exact(10), 5);
        checks.found("exact(10)", desk, 2, 0, 0, 100, 1, 100, 3, 100, 4, 400);
        checks.same("exact(2)", desk.exact(2), 2);
        checks.found("exact(2)", desk, 2, 0, 0, 100);
        desk.remove(2);
        desk.remove(0);
        checks.same("exact(2), two removed", desk.exact(2), 2);
        checks.found("exact(2), two removed", desk, 1, 100, 3, 100);
        checks.same("count(4), the GRAPH is not asked", desk.count(4), seen);
        int[] wrong = {0, -1, 11, Integer.MIN_VALUE, Integer.MAX_VALUE};
        for (int k : wrong) {
            checks.same("exact(" + k + ")", desk.exact(k), NearDesk.REFUSED);
        }
        checks.found("after REFUSED", desk, 1, 100, 3, 100);
        NearDesk full = Desks.full();
        checks.same("exact(10) of thirty", full.exact(10), 10);
        checks.same("exact(1) of thirty", full.exact(1), 1);
        NearDesk none = new NearDesk();
        checks.same("exact(1) of none", none.exact(1), 0);
        checks.end();
    }
}
