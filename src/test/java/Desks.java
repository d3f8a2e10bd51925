/** Desks whose graphs were worked out by hand from the document, and desks in several states. */
final class Desks {
    /** Numbers that are out of every range the document names. */
    static final int[] FAR_OFF = {Integer.MIN_VALUE, -1000, Integer.MAX_VALUE, 1 << 30};

    private Desks() {
    }

    /** Documents on a line: only the first COORDINATE differs. No words. */
    static NearDesk line(int... places) {
        NearDesk desk = new NearDesk();
        for (int place : places) {
            desk.put(place, 0, 0, 0, 0);
        }
        return desk;
    }

    /**
     * Documents at 0, step, 2 * step, ..: in LAYER 0 each one has those up to three places before it,
     * the NEAREST first, and then those up to three places behind it.
     */
    static NearDesk evenLine(int many, int step) {
        NearDesk desk = new NearDesk();
        for (int n = 0; n < many; n++) {
            desk.put(n * step, 0, 0, 0, 0);
        }
        return desk;
    }

    /**
     * All with the same VECTOR, so that numbers alone decide. In LAYER 0 the rows of 0, 1 and 2 have
     * the others of 0 to 6; all other rows are 0, 1, 2.
     */
    static NearDesk onePlace(int many) {
        NearDesk desk = new NearDesk();
        for (int n = 0; n < many; n++) {
            desk.put(1, 1, 1, 1, 0);
        }
        return desk;
    }

    /**
     * All with the same VECTOR but 5, which is far off. In LAYER 0 the rows of 0, 1 and 2 have the
     * others of 0 to 4, 6 and 7; all other rows are 0, 1, 2. In LAYER 1, of 2, 8 and 11, each row has
     * 5 and the others.
     */
    static NearDesk onePlaceButOne(int many) {
        NearDesk desk = new NearDesk();
        for (int n = 0; n < many; n++) {
            int at = n == 5 ? 90 : 1;
            desk.put(at, at, at, at, 0);
        }
        return desk;
    }

    /**
     * 0 and 1 in one corner, 2 to 8 in the other. In LAYER 0 the rows of 2 to 8 have others of 2 to 8
     * alone; 0 has 1, 2, 3, 4 and 1 has 0, 2, 3.
     */
    static NearDesk twoPlaces() {
        NearDesk desk = new NearDesk();
        for (int n = 0; n < 9; n++) {
            int at = n < 2 ? 0 : 99;
            desk.put(at, at, at, at, 0);
        }
        return desk;
    }

    /**
     * A middle, number 0, and around it, all with DISTANCE 1600 to it, +x, -x, +y, -y, +z, -z, +w as
     * numbers 1 to 7 (those of one axis have DISTANCE 6400, others 3200).
     */
    static NearDesk star() {
        NearDesk desk = new NearDesk();
        desk.put(50, 50, 50, 50, 0);
        desk.put(90, 50, 50, 50, 0);
        desk.put(10, 50, 50, 50, 0);
        desk.put(50, 90, 50, 50, 0);
        desk.put(50, 10, 50, 50, 0);
        desk.put(50, 50, 90, 50, 0);
        desk.put(50, 50, 10, 50, 0);
        desk.put(50, 50, 50, 90, 0);
        return desk;
    }

    /** Thirty documents, all numbers taken. */
    static NearDesk full() {
        NearDesk desk = new NearDesk();
        for (int n = 0; n < 30; n++) {
            desk.put(n * 3, 99 - n, n * 7 % 100, n * n % 100, n);
        }
        return desk;
    }

    /** Some documents, of which some are LIVE no more; asked, and FOUND by words. */
    static NearDesk some() {
        NearDesk desk = new NearDesk();
        for (int n = 0; n < 13; n++) {
            desk.put(n * 31 % 100, n * 17 % 100, n * 7, 90 - n * 5, n * 4321);
        }
        desk.remove(2);
        desk.remove(7);
        desk.ask(40, 30, 20, 60);
        desk.fuse(6, 11);
        return desk;
    }

    /** Thirty NODES, of which some are LIVE no more; asked, and FOUND by nearness. */
    static NearDesk fullOfSome() {
        NearDesk desk = full();
        desk.remove(0);
        desk.remove(8);
        desk.remove(29);
        desk.ask(20, 90, 40, 50);
        desk.near(5, 7);
        return desk;
    }
}
