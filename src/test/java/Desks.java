/** Small desks whose graphs were worked out by hand from the document. */
final class Desks {
    /** Numbers that are out of every range the document names. */
    static final int[] FAR_OFF = {Integer.MIN_VALUE, -1000, Integer.MAX_VALUE, 1 << 30};

    private Desks() {
    }

    /** Documents on a line: only the first COORDINATE differs. No words. */
    static NearDesk line(int... places) {
        NearDesk desk = new NearDesk();
        for (int place : places) {
            desk.put(place, 0, 0, 0, 0);
        }
        return desk;
    }

    /**
     * A middle, number 0, and around it, all with DISTANCE 1600 to it, +x, -x, +y, -y, +z, -z, +w as
     * numbers 1 to 7 (those of one axis have DISTANCE 6400, others 3200).
     */
    static NearDesk star() {
        NearDesk desk = new NearDesk();
        desk.put(50, 50, 50, 50, 0);
        desk.put(90, 50, 50, 50, 0);
        desk.put(10, 50, 50, 50, 0);
        desk.put(50, 90, 50, 50, 0);
        desk.put(50, 10, 50, 50, 0);
        desk.put(50, 50, 90, 50, 0);
        desk.put(50, 50, 10, 50, 0);
        desk.put(50, 50, 50, 90, 0);
        return desk;
    }

    /** Thirty documents, all places taken. */
    static NearDesk full() {
        NearDesk desk = new NearDesk();
        for (int n = 0; n < 30; n++) {
            desk.put(n * 3, 99 - n, n * 7 % 100, n * n % 100, n);
        }
        return desk;
    }
}
