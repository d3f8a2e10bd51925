import java.util.Random;

/** Runs of at most 512 made-up calls (the same ones each time), each answer held against Reference. */
public final class ReferenceTest {
    private static final int RUNS = 1500;
    private static final int CALLS = 512;
    /** How far apart the coordinates lie: close ones make many equal distances. */
    private static final int[] SPANS = {1, 2, 4, 10, 40, 100};

    private final Checks checks = new Checks();
    private final Random random;
    private final int run;
    private final int span;
    private final int renewals;
    private final NearDesk desk = new NearDesk();
    private final Reference reference = new Reference();
    private boolean differs;

    private ReferenceTest(int run) {
        this.run = run;
        this.random = new Random(run);
        this.span = SPANS[run % SPANS.length];
        this.renewals = run % 4;
    }

    public static void main(String[] args) {
        int wrongRuns = 0;
        for (int run = 0; run < RUNS && wrongRuns < 5; run++) {
            if (!new ReferenceTest(run).agrees()) {
                wrongRuns++;
            }
        }
        System.out.println(RUNS + " runs of " + CALLS + " calls, " + wrongRuns + " differed");
        if (wrongRuns > 0) {
            System.exit(1);
        }
    }

    private boolean agrees() {
        // some runs look around from the start, others grow first
        int growth = random.nextInt(36);
        for (int i = 0; i < CALLS && !differs; i++) {
            if (i < growth) {
                put();
            } else {
                anyCall();
            }
        }
        return !differs;
    }

    private void anyCall() {
        int die = random.nextInt(100);
        if (die < 12) {
            put();
        } else if (die < 18) {
            int n = number(30);
            tell("remove", reference.remove(n) ? 1 : 0, desk.remove(n) ? 1 : 0, n);
        } else if (die < 18 + renewals) {
            tell("renew", reference.renew(), desk.renew());
        } else if (die < 28) {
            ask();
        } else if (die < 50) {
            find();
        } else if (die < 62) {
            int i = random.nextInt(12) - 1;
            int what = number(3);
            tell("found", reference.found(i, what), desk.found(i, what), i, what);
        } else if (die < 74) {
            int n = number(30);
            int what = number(14);
            tell("node", reference.node(n, what), desk.node(n, what), n, what);
        } else if (die < 86) {
            int n = number(30);
            int layer = random.nextInt(8) == 0 ? number(4) : random.nextInt(2);
            int i = number(7);
            tell("neighbour", reference.neighbour(n, layer, i), desk.neighbour(n, layer, i), n, layer, i);
        } else {
            int what = number(10);
            tell("count", reference.count(what), desk.count(what), what);
        }
    }

    private void put() {
        int a = coordinate();
        int b = coordinate();
        int c = coordinate();
        int d = coordinate();
        int words = random.nextInt(50) == 0 ? number(16777216) : someWords();
        tell("put", reference.put(a, b, c, d, words), desk.put(a, b, c, d, words), a, b, c, d, words);
    }

    private void ask() {
        int a = coordinate();
        int b = coordinate();
        int c = coordinate();
        int d = coordinate();
        tell("ask", reference.ask(a, b, c, d) ? 1 : 0, desk.ask(a, b, c, d) ? 1 : 0, a, b, c, d);
    }

    private void find() {
        int k = 1 + number(10);
        int width = 1 + number(10);
        int set = number(256);
        switch (random.nextInt(4)) {
            case 0 -> tell("near", reference.near(k, width), desk.near(k, width), k, width);
            case 1 -> tell("exact", reference.exact(k), desk.exact(k), k);
            case 2 -> tell("match", reference.match(k, set), desk.match(k, set), k, set);
            default -> tell("fuse", reference.fuse(k, set), desk.fuse(k, set), k, set);
        }
    }

    /** Mostly 0 to less than the bound; now and then just outside, or far off. */
    private int number(int bound) {
        return switch (random.nextInt(60)) {
            case 0 -> -1;
            case 1 -> bound;
            case 2 -> random.nextInt();
            default -> random.nextInt(bound);
        };
    }

    private int coordinate() {
        if (random.nextInt(250) == 0) {
            return number(100);
        }
        return (100 - span) / 2 + random.nextInt(span);
    }

    private int someWords() {
        int words = 0;
        for (int w = 0; w < 8; w++) {
            if (random.nextInt(3) == 0) {
                words |= random.nextInt(8) << 3 * w;
            }
        }
        return words;
    }

    private void tell(String call, int due, int got, int... with) {
        if (due != got) {
            differs = true;
            StringBuilder text = new StringBuilder("run " + run + ": " + call + "(");
            for (int i = 0; i < with.length; i++) {
                text.append(i == 0 ? "" : ", ").append(with[i]);
            }
            checks.same(text + ")", got, due);
        }
    }
}
