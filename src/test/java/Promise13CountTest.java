public final class Promise13CountTest {
    public static void main(String[] args) {
        Checks checks = new Checks();
        whatJustOutside(checks);
        farOff(checks);
        ofNone(checks);
        ofOne(checks);
        ofThirty(checks);
        nodesAndLive(checks);
        entryAndTop(checks);
        seenInSearches(checks);
        seenInEntering(checks);
        howManyAreFound(checks);
        amongTheNearest(checks);
        amongTheNearestOfSameDistance(checks);
        amongTheNearestNow(checks);
        amongTheNearestPutAnew(checks);
        fewerLiveThanFound(checks);
        oneSidedPairs(checks);
        pairsOfTheLeastNumber(checks);
        pairsOfTheGreatestNumber(checks);
        pairsAtTheBottomAlone(checks);
        comeTo(checks);
        comeToInTheDirectionOfTheRows(checks);
        comeToFromTheEntryAlone(checks);
        checks.end();
    }

    /** "REFUSED for others": 0 to 9 are as said. */
    private static void whatJustOutside(Checks checks) {
        NearDesk desk = Desks.line(0, 10, 20);
        checks.same("count(-1)", desk.count(-1), NearDesk.REFUSED);
        checks.same("count(0)", desk.count(0), 3);
        checks.same("count(9)", desk.count(9), 3);
        checks.same("count(10)", desk.count(10), NearDesk.REFUSED);
    }

    private static void farOff(Checks checks) {
        for (int far : Desks.FAR_OFF) {
            checks.same("count(" + far + ")", Desks.star().count(far), NearDesk.REFUSED);
            checks.same("count(" + far + ") of none", new NearDesk().count(far), NearDesk.REFUSED);
        }
    }

    private static void all(Checks checks, NearDesk desk, int... due) {
        for (int what = 0; what < 10; what++) {
            checks.same("count(" + what + ")", desk.count(what), due[what]);
        }
    }

    /** "the ENTRY (NONE), .. the TOP (NONE)" */
    private static void ofNone(Checks checks) {
        all(checks, new NearDesk(), 0, 0, NearDesk.NONE, NearDesk.NONE, 0, 0, 0, 0, 0, 0);
    }

    private static void ofOne(Checks checks) {
        NearDesk desk = Desks.line(5);
        desk.near(10, 10);
        all(checks, desk, 1, 1, 0, 0, 1, 0, 1, 1, 0, 1);
    }

    private static void ofThirty(Checks checks) {
        NearDesk desk = Desks.evenLine(30, 3);
        desk.exact(10);
        checks.same("count(0)", desk.count(0), 30);
        checks.same("count(1)", desk.count(1), 30);
        checks.same("count(2)", desk.count(2), 26);
        checks.same("count(3)", desk.count(3), 3);
        checks.same("count(6)", desk.count(6), 10);
        checks.same("count(7)", desk.count(7), 10);
        checks.same("count(8)", desk.count(8), 0);
        checks.same("count(9)", desk.count(9), 30);
    }

    private static void nodesAndLive(Checks checks) {
        NearDesk desk = Desks.line(0, 10, 20);
        desk.remove(0);
        checks.same("count(0)", desk.count(0), 3);
        checks.same("count(1)", desk.count(1), 2);
        desk.remove(1);
        desk.remove(2);
        checks.same("count(0), none LIVE", desk.count(0), 3);
        checks.same("count(1), none LIVE", desk.count(1), 0);
        desk.renew();
        checks.same("count(0), renewed", desk.count(0), 0);
        checks.same("count(1), renewed", desk.count(1), 0);
    }

    private static void entryAndTop(Checks checks) {
        NearDesk desk = Desks.line(0, 10, 20);
        checks.same("count(2)", desk.count(2), 2);
        checks.same("count(3)", desk.count(3), 1);
        for (int n = 0; n < 3; n++) {
            desk.remove(n);
        }
        checks.same("count(2), none LIVE", desk.count(2), 2);
        checks.same("count(3), none LIVE", desk.count(3), 1);
        desk.renew();
        checks.same("count(2), no NODES", desk.count(2), NearDesk.NONE);
        checks.same("count(3), no NODES", desk.count(3), NearDesk.NONE);
    }

    /** "(each WALK counts its own)": 2 in LAYER 1 and in LAYER 0. */
    private static void seenInSearches(Checks checks) {
        NearDesk desk = Desks.line(0, 10, 20);
        desk.near(3, 3);
        checks.same("count(4) after near", desk.count(4), 1 + 3);
        desk.fuse(3, 0);
        checks.same("count(4) after fuse", desk.count(4), 2 * (1 + 3));
        desk.exact(3);
        desk.match(3, 255);
        desk.put(30, 0, 0, 0, 0);
        desk.renew();
        checks.same("count(4) after others", desk.count(4), 2 * (1 + 3));
    }

    private static void seenInEntering(Checks checks) {
        NearDesk desk = Desks.line(0, 10, 20);
        // 0 saw none; 1 saw 0; 2 saw 0 and 1
        checks.same("count(5)", desk.count(5), 1 + 2);
        // 3 sees 2 in LAYER 1 and all three in LAYER 0
        desk.put(30, 0, 0, 0, 0);
        checks.same("count(5), one more", desk.count(5), 3 + 1 + 3);
        desk.near(3, 3);
        desk.fuse(3, 0);
        checks.same("count(5) after SEARCHES", desk.count(5), 7);
        desk.renew();
        checks.same("count(5), all entered anew", desk.count(5), 7 + 7);
    }

    private static void howManyAreFound(Checks checks) {
        NearDesk desk = Desks.evenLine(11, 9);
        checks.same("count(6), nothing yet", desk.count(6), 0);
        for (int k = 1; k <= 10; k++) {
            desk.exact(k);
            checks.same("count(6) after exact(" + k + ")", desk.count(6), k);
        }
        desk.exact(11);
        checks.same("count(6) after REFUSED", desk.count(6), 10);
        desk.match(1, 255);
        checks.same("count(6), none has a WORD", desk.count(6), 0);
    }

    private static void amongTheNearest(Checks checks) {
        NearDesk desk = Desks.line(0, 10, 20, 30);
        checks.same("count(7), nothing FOUND", desk.count(7), 0);
        desk.exact(2);
        checks.same("count(7)", desk.count(7), 2);
        desk.ask(14, 0, 0, 0);
        checks.same("count(7), asked anew", desk.count(7), 1);
        desk.ask(30, 0, 0, 0);
        checks.same("count(7), far away", desk.count(7), 0);
        checks.found("FOUND stays", desk, 0, 0, 1, 100);
    }

    /** "of as many LIVE DOCUMENTS NEAREST": 1, FOUND by its WORD, is as far as 0, which is NEARER. */
    private static void amongTheNearestOfSameDistance(Checks checks) {
        NearDesk desk = new NearDesk();
        desk.put(10, 0, 0, 0, 0);
        desk.put(0, 10, 0, 0, 1);
        desk.match(10, 1);
        checks.found("match(10, 1)", desk, 1, 50 * 3);
        checks.same("count(7)", desk.count(7), 0);
        desk.remove(0);
        checks.same("count(7), 0 is LIVE no more", desk.count(7), 1);
    }

    /** Of 0 and 1, which are FOUND, 0 is LIVE no more: 1 and 2 are the two NEAREST. */
    private static void amongTheNearestNow(Checks checks) {
        NearDesk desk = Desks.line(0, 10, 20, 30);
        desk.exact(2);
        desk.remove(0);
        checks.same("count(7), one removed", desk.count(7), 1);
        desk.put(1, 0, 0, 0, 0);
        checks.same("count(7), a nearer one put", desk.count(7), 1);
        desk.put(2, 0, 0, 0, 0);
        checks.same("count(7), two nearer ones put", desk.count(7), 0);
    }

    private static void amongTheNearestPutAnew(Checks checks) {
        NearDesk desk = Desks.line(0, 10, 20, 30);
        desk.exact(2);
        desk.remove(0);
        desk.renew();
        desk.put(1, 0, 0, 0, 0);
        checks.same("count(7), its number put anew", desk.count(7), 2);
    }

    private static void fewerLiveThanFound(Checks checks) {
        NearDesk desk = Desks.line(0, 10, 20, 30);
        desk.exact(4);
        desk.remove(0);
        desk.remove(1);
        checks.same("count(7), two LIVE", desk.count(7), 2);
        desk.remove(2);
        desk.remove(3);
        checks.same("count(7), none LIVE", desk.count(7), 0);
    }

    private static void oneSidedPairs(Checks checks) {
        checks.same("count(8), all returned", Desks.line(0, 10, 20).count(8), 0);
        // 7 has 0, which lost it; 1 and 2 lost one another
        NearDesk star = Desks.star();
        checks.same("count(8)", star.count(8), 1);
        star.remove(7);
        checks.same("count(8), removed NODES too", star.count(8), 1);
        star.renew();
        checks.same("count(8), renewed", star.count(8), 0);
    }

    /** 0 has 2, 3 and 4, and 1 has 2 and 3, which have not them. */
    private static void pairsOfTheLeastNumber(Checks checks) {
        checks.row(Desks.twoPlaces(), 0, 0, 1, 2, 3, 4);
        checks.row(Desks.twoPlaces(), 1, 0, 0, 2, 3);
        checks.same("count(8), in two places", Desks.twoPlaces().count(8), 5);
    }

    /** 7 to 29 have 0, 1 and 2 each, which have none of them. */
    private static void pairsOfTheGreatestNumber(Checks checks) {
        checks.same("count(8), twelve in one place", Desks.onePlace(12).count(8), 5 * 3);
        checks.same("count(8), thirty in one place", Desks.onePlace(30).count(8), 23 * 3);
    }

    /** In LAYER 1 the NODES of one place lose some, too: 14 has 2, 5 and 8, which have not it. */
    private static void pairsAtTheBottomAlone(Checks checks) {
        checks.same("count(8), fifteen in one place", Desks.onePlace(15).count(8), 24);
    }

    private static void comeTo(Checks checks) {
        checks.same("count(9) of none", new NearDesk().count(9), 0);
        checks.same("count(9), one alone", Desks.line(5).count(9), 1);
        checks.same("count(9), two", Desks.line(5, 6).count(9), 2);
        NearDesk star = Desks.star();
        checks.same("count(9), a star", star.count(9), 8);
        star.remove(2);
        checks.same("count(9), the ENTRY removed", star.count(9), 8);
    }

    /** From 8, the ENTRY, to 0, 1, 2 and from those to 3, 4, 5, 6; none of these has 7, 9, 10 or 11. */
    private static void comeToInTheDirectionOfTheRows(Checks checks) {
        NearDesk desk = Desks.onePlace(12);
        checks.same("count(9), all in one place", desk.count(9), 8);
        desk.remove(8);
        checks.same("count(9), removed NODES too", desk.count(9), 8);
    }

    /** 8, the ENTRY, leads to 2 to 7, none of which leads to 0 or 1, though these lead to all. */
    private static void comeToFromTheEntryAlone(Checks checks) {
        NearDesk desk = Desks.twoPlaces();
        checks.same("count(2)", desk.count(2), 8);
        checks.same("count(9)", desk.count(9), 7);
        checks.same("count(9) again", desk.count(9), 7);
    }
}
