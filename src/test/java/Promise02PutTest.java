public final class Promise02PutTest {
    public static void main(String[] args) {
        Checks checks = new Checks();
        leastNumbersAreTaken(checks);
        greatestNumbersAreTaken(checks);
        coordinatesJustOutside(checks);
        wordsJustOutside(checks);
        farOffNumbers(checks);
        refusedPutsEnterNothing(checks);
        bitsOfWords(checks);
        thirtyAreTaken(checks);
        fullAtThirty(checks);
        removedNodesTakeRoom(checks);
        roomAfterRenew(checks);
        refusedBeforeFull(checks);
        leastFreeNumber(checks);
        removedNodesKeepTheirNumbers(checks);
        putAnewIsAnother(checks);
        checks.end();
    }

    private static int putWith(NearDesk desk, int at, int number) {
        int[] p = {5, 5, 5, 5, 5};
        p[at] = number;
        return desk.put(p[0], p[1], p[2], p[3], p[4]);
    }

    private static void leastNumbersAreTaken(Checks checks) {
        NearDesk desk = new NearDesk();
        checks.same("put least", desk.put(0, 0, 0, 0, 0), 0);
        for (int what = 3; what <= 7; what++) {
            checks.same("node(0, " + what + ")", desk.node(0, what), 0);
        }
    }

    private static void greatestNumbersAreTaken(Checks checks) {
        NearDesk desk = new NearDesk();
        checks.same("put greatest", desk.put(99, 99, 99, 99, 16777215), 0);
        for (int what = 3; what <= 6; what++) {
            checks.same("node(0, " + what + ")", desk.node(0, what), 99);
        }
        checks.same("node(0, 7)", desk.node(0, 7), 16777215);
    }

    /** "REFUSED if a number is not as said": COORDINATES 0 to 99. */
    private static void coordinatesJustOutside(Checks checks) {
        for (int at = 0; at < 4; at++) {
            checks.same("one less, at " + at, putWith(new NearDesk(), at, -1), NearDesk.REFUSED);
            checks.same("least, at " + at, putWith(new NearDesk(), at, 0), 0);
            checks.same("greatest, at " + at, putWith(new NearDesk(), at, 99), 0);
            checks.same("one more, at " + at, putWith(new NearDesk(), at, 100), NearDesk.REFUSED);
        }
    }

    /** "words (0 to 16777215)" */
    private static void wordsJustOutside(Checks checks) {
        checks.same("one less", putWith(new NearDesk(), 4, -1), NearDesk.REFUSED);
        checks.same("least", putWith(new NearDesk(), 4, 0), 0);
        checks.same("greatest", putWith(new NearDesk(), 4, 16777215), 0);
        checks.same("one more", putWith(new NearDesk(), 4, 16777216), NearDesk.REFUSED);
    }

    private static void farOffNumbers(Checks checks) {
        for (int far : Desks.FAR_OFF) {
            for (int at = 0; at < 5; at++) {
                checks.same("far off, at " + at, putWith(new NearDesk(), at, far), NearDesk.REFUSED);
            }
        }
        checks.same("all wrong", new NearDesk().put(-1, 100, -1, 100, -1), NearDesk.REFUSED);
    }

    private static void refusedPutsEnterNothing(Checks checks) {
        NearDesk desk = Desks.line(1, 2);
        for (int at = 0; at < 5; at++) {
            putWith(desk, at, -1);
        }
        checks.same("count(0)", desk.count(0), 2);
        checks.same("count(1)", desk.count(1), 2);
        checks.same("count(5)", desk.count(5), 1);
        checks.same("put after REFUSED", desk.put(3, 0, 0, 0, 0), 2);
        checks.same("node(2, 1)", desk.node(2, 1), 3);
    }

    /** "as COUNT of WORD w the number of bits 3 w to 3 w + 2": 1 in WORD 0, 2 in WORD 1, .., 7 in WORD 6. */
    private static void bitsOfWords(Checks checks) {
        int[] parts = {50, 66, 75, 80, 83, 85, 87};
        int words = 0;
        for (int w = 0; w < 7; w++) {
            words |= w + 1 << 3 * w;
        }
        NearDesk desk = new NearDesk();
        desk.put(0, 0, 0, 0, words);
        checks.same("node(0, 7)", desk.node(0, 7), words);
        for (int w = 0; w < 7; w++) {
            desk.match(1, 1 << w);
            checks.found("WORD " + w, desk, 0, parts[w] * 2);
        }
        checks.same("WORD 7", desk.match(1, 128), 0);
    }

    private static void thirtyAreTaken(Checks checks) {
        NearDesk desk = new NearDesk();
        for (int n = 0; n < 30; n++) {
            checks.same("put the " + n, desk.put(n, n, n, n, n), n);
        }
        checks.same("count(0)", desk.count(0), 30);
        checks.same("count(1)", desk.count(1), 30);
    }

    /** "FULL if there are 30 NODES" */
    private static void fullAtThirty(Checks checks) {
        NearDesk desk = Desks.full();
        int seen = desk.count(5);
        checks.same("put the 31st", desk.put(1, 1, 1, 1, 1), NearDesk.FULL);
        checks.same("put the 31st again", desk.put(0, 0, 0, 0, 0), NearDesk.FULL);
        checks.same("count(0)", desk.count(0), 30);
        checks.same("count(5) unchanged", desk.count(5), seen);
        checks.same("node(0, 4) unchanged", desk.node(0, 4), 99);
        checks.same("node(29, 7) unchanged", desk.node(29, 7), 29);
    }

    private static void removedNodesTakeRoom(Checks checks) {
        NearDesk desk = Desks.full();
        desk.remove(11);
        checks.same("put, one removed", desk.put(1, 1, 1, 1, 1), NearDesk.FULL);
        for (int n = 0; n < 30; n++) {
            desk.remove(n);
        }
        checks.same("put, all removed", desk.put(1, 1, 1, 1, 1), NearDesk.FULL);
    }

    private static void roomAfterRenew(Checks checks) {
        NearDesk desk = Desks.full();
        checks.same("renew(), none removed", desk.renew(), 0);
        checks.same("put, none removed", desk.put(1, 1, 1, 1, 1), NearDesk.FULL);
        desk.remove(29);
        checks.same("renew()", desk.renew(), 1);
        checks.same("put", desk.put(1, 1, 1, 1, 1), 29);
        checks.same("put, full again", desk.put(1, 1, 1, 1, 1), NearDesk.FULL);
        for (int n = 0; n < 30; n++) {
            desk.remove(n);
        }
        checks.same("renew(), all removed", desk.renew(), 30);
        checks.same("put, none left", desk.put(1, 1, 1, 1, 1), 0);
    }

    private static void refusedBeforeFull(Checks checks) {
        NearDesk desk = Desks.full();
        for (int at = 0; at < 5; at++) {
            checks.same("REFUSED before FULL, less", putWith(desk, at, -1), NearDesk.REFUSED);
            checks.same("REFUSED before FULL, more", putWith(desk, at, 16777216), NearDesk.REFUSED);
        }
    }

    /** "its number is the least that no NODE has" */
    private static void leastFreeNumber(Checks checks) {
        NearDesk desk = Desks.line(1, 2, 3, 4, 5);
        desk.remove(3);
        desk.remove(1);
        desk.renew();
        checks.same("put into the first gap", desk.put(9, 0, 0, 0, 0), 1);
        checks.same("put into the second gap", desk.put(9, 0, 0, 0, 0), 3);
        checks.same("put behind", desk.put(9, 0, 0, 0, 0), 5);
    }

    private static void removedNodesKeepTheirNumbers(Checks checks) {
        NearDesk desk = Desks.line(1, 2, 3);
        desk.remove(1);
        checks.same("put after remove", desk.put(4, 0, 0, 0, 0), 3);
        checks.same("node(1, 3)", desk.node(1, 3), 2);
    }

    private static void putAnewIsAnother(Checks checks) {
        NearDesk desk = new NearDesk();
        desk.put(10, 20, 30, 40, 7);
        desk.put(0, 0, 0, 0, 0);
        desk.remove(0);
        desk.renew();
        checks.same("put", desk.put(1, 2, 3, 4, 1 << 3), 0);
        int[] due = {0, 2, 1, 1, 2, 3, 4, 8};
        for (int what = 0; what < due.length; what++) {
            checks.same("node(0, " + what + ")", desk.node(0, what), due[what]);
        }
        checks.row(desk, 0, 0, 1);
        checks.same("its old WORD", desk.match(10, 1), 0);
        checks.same("its new WORD", desk.match(10, 2), 1);
    }
}
