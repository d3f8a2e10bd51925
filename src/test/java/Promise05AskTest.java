public final class Promise05AskTest {
    public static void main(String[] args) {
        Checks checks = new Checks();
        NearDesk desk = new NearDesk();
        desk.put(10, 20, 30, 40, 0);
        checks.same("ask", desk.ask(11, 22, 33, 44), true);
        desk.exact(1);
        checks.found("exact(1)", desk, 0, 1 + 4 + 9 + 16);
        checks.same("ask(0, 99, 0, 99)", desk.ask(0, 99, 0, 99), true);
        checks.found("the FOUND of before", desk, 0, 30);
        desk.near(1, 1);
        checks.found("near(1, 1)", desk, 0, 100 + 79 * 79 + 900 + 59 * 59);
        checks.same("ask(10, 20, 30, 40)", desk.ask(10, 20, 30, 40), true);
        for (int at = 0; at < 4; at++) {
            checks.same("ask, one less, at " + at, askWith(desk, at, -1), false);
            checks.same("ask, one more, at " + at, askWith(desk, at, 100), false);
            for (int far : Desks.FAR_OFF) {
                checks.same("ask, far off, at " + at, askWith(desk, at, far), false);
            }
        }
        desk.exact(1);
        checks.found("nothing changed", desk, 0, 0);
        checks.end();
    }

    private static boolean askWith(NearDesk desk, int at, int number) {
        int[] v = {5, 5, 5, 5};
        v[at] = number;
        return desk.ask(v[0], v[1], v[2], v[3]);
    }
}
