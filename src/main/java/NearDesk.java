/**
 * Search by words and by nearness together. What each call answers is said in the document's
 * promises; the words in capitals there are the names used here.
 */
public final class NearDesk {
    public static final int REFUSED = -1;
    public static final int NONE = -2;
    public static final int FULL = -3;

    private static final int DOCUMENTS = 30;
    private static final int COORDINATES = 4;
    private static final int MOST_COORDINATE = 99;
    private static final int WORDS = 8;
    private static final int BITS_OF_COUNT = 3;
    private static final int MOST_COUNT = 7;
    private static final int MOST_COUNTS = 16777215;
    private static final int MOST_SET = 255;
    private static final int MOST_FOUND = 10;
    private static final int FUSED_POINTS = 1000;
    private static final int FUSED_OFFSET = 10;
    private static final int MOST_LEVEL = 3;
    private static final int LAYERS = MOST_LEVEL + 1;
    private static final boolean LEAST_FIRST = false;
    private static final boolean GREATEST_FIRST = true;

    private final Documents documents = new Documents();
    private final Graph graph = new Graph();
    private final Ranking results = new Ranking();
    private final Ranking scratch = new Ranking();
    private final int[] asked = new int[COORDINATES];
    private final int[] points = new int[DOCUMENTS];

    public NearDesk() {
    }

    public int put(int a, int b, int c, int d, int words) {
        if (!isVector(a, b, c, d) || !isWithin(words, 0, MOST_COUNTS)) {
            return REFUSED;
        }
        int n = graph.links.freeNumber();
        if (n == NONE) {
            return FULL;
        }
        documents.store(n, a, b, c, d, words);
        graph.enter(documents, n);
        return n;
    }

    public boolean remove(int n) {
        return documents.retire(n);
    }

    public int renew() {
        int gone = graph.links.size() - documents.liveCount();
        graph.clear();
        for (int n = 0; n < DOCUMENTS; n++) {
            if (documents.isLive(n)) {
                graph.enter(documents, n);
            }
        }
        return gone;
    }

    public boolean ask(int a, int b, int c, int d) {
        if (!isVector(a, b, c, d)) {
            return false;
        }
        writeVector(asked, a, b, c, d);
        return true;
    }

    public int near(int k, int width) {
        if (!isWithin(k, 1, MOST_FOUND) || !isWithin(width, 1, MOST_FOUND)) {
            return REFUSED;
        }
        results.start(k, LEAST_FIRST);
        searchInto(results, Math.max(k, width));
        return results.size();
    }

    public int exact(int k) {
        if (!isWithin(k, 1, MOST_FOUND)) {
            return REFUSED;
        }
        results.start(k, LEAST_FIRST);
        documents.rankByDistance(asked, results);
        return results.size();
    }

    public int match(int k, int set) {
        if (!isWithin(k, 1, MOST_FOUND) || !isWithin(set, 0, MOST_SET)) {
            return REFUSED;
        }
        results.start(k, GREATEST_FIRST);
        documents.rankByScore(set, results);
        return results.size();
    }

    public int fuse(int k, int set) {
        if (!isWithin(k, 1, MOST_FOUND) || !isWithin(set, 0, MOST_SET)) {
            return REFUSED;
        }
        clearPoints();
        scratch.start(MOST_FOUND, GREATEST_FIRST);
        documents.rankByScore(set, scratch);
        addPoints(scratch);
        scratch.start(MOST_FOUND, LEAST_FIRST);
        searchInto(scratch, MOST_FOUND);
        addPoints(scratch);
        results.start(k, GREATEST_FIRST);
        rankByPoints(results);
        return results.size();
    }

    public int found(int i, int what) {
        if (!isWithin(what, 0, 2)) {
            return REFUSED;
        }
        if (!isWithin(i, 0, results.size() - 1)) {
            return NONE;
        }
        int n = results.numberAt(i);
        switch (what) {
            case 0:
                return n;
            case 1:
                return results.valueAt(i);
            default:
                return documents.isLive(n) ? 1 : 0;
        }
    }

    public int node(int n, int what) {
        if (!isWithin(what, 0, 7) && !isWithin(what, 10, 10 + MOST_LEVEL)) {
            return REFUSED;
        }
        if (!graph.links.isNode(n)) {
            return NONE;
        }
        if (what >= 10) {
            int layer = what - 10;
            return graph.links.isInLayer(n, layer) ? graph.links.degree(n, layer) : NONE;
        }
        switch (what) {
            case 0:
                return graph.links.level(n);
            case 1:
                return graph.links.order(n);
            case 2:
                return documents.isLive(n) ? 1 : 0;
            case 7:
                return documents.counts(n);
            default:
                return documents.coordinate(n, what - 3);
        }
    }

    public int neighbour(int n, int layer, int i) {
        if (!graph.links.isInLayer(n, layer) || !isWithin(i, 0, graph.links.degree(n, layer) - 1)) {
            return NONE;
        }
        return graph.links.linked(n, layer, i);
    }

    public int count(int what) {
        switch (what) {
            case 0:
                return graph.links.size();
            case 1:
                return documents.liveCount();
            case 2:
                return graph.entry();
            case 3:
                return graph.top();
            case 4:
                return graph.seenInSearches();
            case 5:
                return graph.seenInEntering();
            case 6:
                return results.size();
            case 7:
                return foundAmongNearest();
            case 8:
                return graph.links.oneSidedPairs();
            case 9:
                return graph.links.reachedFrom(graph.entry());
            default:
                return REFUSED;
        }
    }

    private void searchInto(Ranking target, int width) {
        Ranking held = graph.search(documents, asked, width);
        for (int i = 0; i < held.size(); i++) {
            int n = held.numberAt(i);
            if (documents.isLive(n)) {
                target.add(n, held.valueAt(i));
            }
        }
    }

    private void clearPoints() {
        for (int n = 0; n < DOCUMENTS; n++) {
            points[n] = 0;
        }
    }

    private void addPoints(Ranking list) {
        for (int place = 0; place < list.size(); place++) {
            points[list.numberAt(place)] += FUSED_POINTS / (FUSED_OFFSET + place);
        }
    }

    private void rankByPoints(Ranking target) {
        for (int n = 0; n < DOCUMENTS; n++) {
            if (points[n] > 0) {
                target.add(n, points[n]);
            }
        }
    }

    private int foundAmongNearest() {
        scratch.start(results.size(), LEAST_FIRST);
        documents.rankByDistance(asked, scratch);
        int shared = 0;
        for (int i = 0; i < results.size(); i++) {
            if (scratch.holds(results.numberAt(i))) {
                shared++;
            }
        }
        return shared;
    }

    private static boolean isWithin(int number, int least, int most) {
        return number >= least && number <= most;
    }

    private static boolean isCoordinate(int number) {
        return isWithin(number, 0, MOST_COORDINATE);
    }

    private static boolean isVector(int a, int b, int c, int d) {
        return isCoordinate(a) && isCoordinate(b) && isCoordinate(c) && isCoordinate(d);
    }

    private static boolean isDocumentNumber(int n) {
        return isWithin(n, 0, DOCUMENTS - 1);
    }

    /** Sets of documents are the bits of one int: thirty fit, and a new set costs no row. */
    private static boolean isIn(int set, int n) {
        return (set >> n & 1) != 0;
    }

    private static void writeVector(int[] vector, int a, int b, int c, int d) {
        vector[0] = a;
        vector[1] = b;
        vector[2] = c;
        vector[3] = d;
    }

    private static int distance(int[] v, int[] w) {
        int sum = 0;
        for (int i = 0; i < COORDINATES; i++) {
            int difference = v[i] - w[i];
            sum += difference * difference;
        }
        return sum;
    }

    /**
     * Numbers in the order of their values, those with the same value by number; what does not fit
     * into the room falls off the end. Its rows are made once, since a run counts what it makes.
     */
    private static final class Ranking {
        private final int[] numbers = new int[DOCUMENTS];
        private final int[] values = new int[DOCUMENTS];
        private int size;
        private int room;
        private boolean greatestFirst;

        void start(int newRoom, boolean newOrder) {
            size = 0;
            room = Math.min(newRoom, DOCUMENTS);
            greatestFirst = newOrder == GREATEST_FIRST;
        }

        void changeRoom(int newRoom) {
            room = Math.min(newRoom, DOCUMENTS);
            size = Math.min(size, room);
        }

        int size() {
            return size;
        }

        int numberAt(int i) {
            return numbers[i];
        }

        int valueAt(int i) {
            return values[i];
        }

        boolean isFull() {
            return size >= room;
        }

        boolean lastPrecedes(int number, int value) {
            return size > 0 && precedes(numbers[size - 1], values[size - 1], number, value);
        }

        boolean holds(int number) {
            for (int i = 0; i < size; i++) {
                if (numbers[i] == number) {
                    return true;
                }
            }
            return false;
        }

        /** Answers whether the number got a place. */
        boolean add(int number, int value) {
            if (isFull()) {
                if (size == 0 || !precedes(number, value, numbers[size - 1], values[size - 1])) {
                    return false;
                }
                size--;
            }
            int place = size;
            while (place > 0 && precedes(number, value, numbers[place - 1], values[place - 1])) {
                numbers[place] = numbers[place - 1];
                values[place] = values[place - 1];
                place--;
            }
            numbers[place] = number;
            values[place] = value;
            size++;
            return true;
        }

        void dropFirst() {
            for (int i = 1; i < size; i++) {
                numbers[i - 1] = numbers[i];
                values[i - 1] = values[i];
            }
            size = Math.max(0, size - 1);
        }

        private boolean precedes(int number, int value, int otherNumber, int otherValue) {
            if (value != otherValue) {
                return greatestFirst == (value > otherValue);
            }
            return number < otherNumber;
        }
    }

    /** What the documents say of themselves; one that is live no more keeps its vector, as a node. */
    private static final class Documents {
        private final int[][] vectors = new int[DOCUMENTS][COORDINATES];
        private final int[] countsOfWords = new int[DOCUMENTS];
        private final int[] weights = new int[WORDS];
        private int live;

        void store(int n, int a, int b, int c, int d, int words) {
            writeVector(vectors[n], a, b, c, d);
            countsOfWords[n] = words;
            live |= 1 << n;
        }

        boolean retire(int n) {
            if (!isLive(n)) {
                return false;
            }
            live &= ~(1 << n);
            return true;
        }

        boolean isLive(int n) {
            return isDocumentNumber(n) && isIn(live, n);
        }

        int liveCount() {
            return Integer.bitCount(live);
        }

        int[] vector(int n) {
            return vectors[n];
        }

        int coordinate(int n, int i) {
            return vectors[n][i];
        }

        int counts(int n) {
            return countsOfWords[n];
        }

        void measure(int[] v, int[] distances) {
            for (int n = 0; n < DOCUMENTS; n++) {
                distances[n] = distance(v, vectors[n]);
            }
        }

        void rankByDistance(int[] v, Ranking target) {
            for (int n = 0; n < DOCUMENTS; n++) {
                if (isLive(n)) {
                    target.add(n, distance(v, vectors[n]));
                }
            }
        }

        void rankByScore(int set, Ranking target) {
            weighWords();
            for (int n = 0; n < DOCUMENTS; n++) {
                int score = isLive(n) ? score(n, set) : 0;
                if (score > 0) {
                    target.add(n, score);
                }
            }
        }

        private void weighWords() {
            for (int w = 0; w < WORDS; w++) {
                int having = liveWith(w);
                weights[w] = having > 0 ? 1 + liveCount() / having : 0;
            }
        }

        private int liveWith(int w) {
            int having = 0;
            for (int n = 0; n < DOCUMENTS; n++) {
                if (isLive(n) && countOfWord(n, w) > 0) {
                    having++;
                }
            }
            return having;
        }

        private int score(int n, int set) {
            int sum = 0;
            for (int w = 0; w < WORDS; w++) {
                if (isIn(set, w)) {
                    int c = countOfWord(n, w);
                    sum += 100 * c / (c + 1) * weights[w];
                }
            }
            return sum;
        }

        private int countOfWord(int n, int w) {
            return countsOfWords[n] >> BITS_OF_COUNT * w & MOST_COUNT;
        }
    }

    /** The nodes' levels, the order in which they entered, and their rows of neighbours. */
    private static final class Links {
        private static final int MOST_AT_BOTTOM = 6;
        private static final int MOST_ABOVE = 3;
        /** One place more than the most: a row is too long for as long as it is chosen from. */
        private static final int ROW = 7;

        private final int[] orders = new int[DOCUMENTS];
        private final int[] levels = new int[DOCUMENTS];
        private final int[] degrees = new int[DOCUMENTS * LAYERS];
        private final int[] rows = new int[DOCUMENTS * LAYERS * ROW];
        private final int[] queue = new int[DOCUMENTS];
        private int size;

        void clear() {
            for (int n = 0; n < DOCUMENTS; n++) {
                orders[n] = 0;
            }
            size = 0;
        }

        void addNode(int n) {
            size++;
            orders[n] = size;
            levels[n] = levelOf(size);
            for (int layer = 0; layer < LAYERS; layer++) {
                degrees[n * LAYERS + layer] = 0;
            }
        }

        int size() {
            return size;
        }

        int freeNumber() {
            for (int n = 0; n < DOCUMENTS; n++) {
                if (orders[n] == 0) {
                    return n;
                }
            }
            return NONE;
        }

        boolean isNode(int n) {
            return isDocumentNumber(n) && orders[n] > 0;
        }

        boolean isInLayer(int n, int layer) {
            return isNode(n) && isWithin(layer, 0, levels[n]);
        }

        int order(int n) {
            return orders[n];
        }

        int level(int n) {
            return levels[n];
        }

        int degree(int n, int layer) {
            return degrees[n * LAYERS + layer];
        }

        int linked(int n, int layer, int i) {
            return rows[(n * LAYERS + layer) * ROW + i];
        }

        int most(int layer) {
            return layer == 0 ? MOST_AT_BOTTOM : MOST_ABOVE;
        }

        void append(int n, int layer, int other) {
            int row = n * LAYERS + layer;
            if (degrees[row] < ROW) {
                rows[row * ROW + degrees[row]] = other;
                degrees[row]++;
            }
        }

        void replace(int n, int layer, Chooser chooser) {
            degrees[n * LAYERS + layer] = 0;
            for (int i = 0; i < chooser.size(); i++) {
                append(n, layer, chooser.chosen(i));
            }
        }

        int oneSidedPairs() {
            int pairs = 0;
            for (int n = 0; n < DOCUMENTS; n++) {
                if (isNode(n)) {
                    pairs += unreturned(n);
                }
            }
            return pairs;
        }

        int reachedFrom(int start) {
            if (!isNode(start)) {
                return 0;
            }
            int reached = 1 << start;
            int waiting = 1;
            queue[0] = start;
            for (int head = 0; head < DOCUMENTS && head < waiting; head++) {
                for (int i = 0; i < degree(queue[head], 0); i++) {
                    int other = linked(queue[head], 0, i);
                    if (!isIn(reached, other)) {
                        reached |= 1 << other;
                        queue[waiting] = other;
                        waiting++;
                    }
                }
            }
            return waiting;
        }

        private int unreturned(int n) {
            int others = 0;
            for (int i = 0; i < degree(n, 0); i++) {
                if (!isLinked(linked(n, 0, i), n)) {
                    others++;
                }
            }
            return others;
        }

        private boolean isLinked(int n, int other) {
            for (int i = 0; i < degree(n, 0); i++) {
                if (linked(n, 0, i) == other) {
                    return true;
                }
            }
            return false;
        }

        private static int levelOf(int order) {
            int level = 0;
            int rest = order;
            while (level < MOST_LEVEL && rest % 3 == 0) {
                rest /= 3;
                level++;
            }
            return level;
        }
    }

    /** The WALK; the nodes that one held are where the next one, in the layer below, begins. */
    private static final class Walker {
        private final Ranking held = new Ranking();
        private final Ranking open = new Ranking();
        private final int[] distances = new int[DOCUMENTS];
        private int seen;

        void standAt(Documents documents, int[] v, int n) {
            documents.measure(v, distances);
            held.start(1, LEAST_FIRST);
            held.add(n, distances[n]);
        }

        void standNowhere() {
            held.start(0, LEAST_FIRST);
        }

        Ranking held() {
            return held;
        }

        /** Answers how many nodes were seen. */
        int walk(Links links, int layer, int width) {
            begin(width);
            for (int step = 0; step < DOCUMENTS && open.size() > 0; step++) {
                int n = open.numberAt(0);
                open.dropFirst();
                if (held.isFull() && held.lastPrecedes(n, distances[n])) {
                    break;
                }
                lookAround(links, layer, n);
            }
            return Integer.bitCount(seen);
        }

        private void begin(int width) {
            seen = 0;
            for (int i = 0; i < held.size(); i++) {
                seen |= 1 << held.numberAt(i);
            }
            held.changeRoom(width);
            open.start(DOCUMENTS, LEAST_FIRST);
            for (int i = 0; i < held.size(); i++) {
                open.add(held.numberAt(i), held.valueAt(i));
            }
        }

        private void lookAround(Links links, int layer, int n) {
            for (int i = 0; i < links.degree(n, layer); i++) {
                int other = links.linked(n, layer, i);
                if (!isIn(seen, other)) {
                    seen |= 1 << other;
                    if (held.add(other, distances[other])) {
                        open.add(other, distances[other]);
                    }
                }
            }
        }
    }

    /** TO CHOOSE out of nodes that are ranked by their distance to a vector. */
    private static final class Chooser {
        private final int[] row = new int[DOCUMENTS];
        private int size;
        private int taken;

        int size() {
            return size;
        }

        int chosen(int i) {
            return row[i];
        }

        void choose(Documents documents, Ranking candidates, int most) {
            size = 0;
            taken = 0;
            for (int i = 0; i < candidates.size() && size < most; i++) {
                int n = candidates.numberAt(i);
                if (isNearestToVector(documents, n, candidates.valueAt(i))) {
                    take(n);
                }
            }
            for (int i = 0; i < candidates.size() && size < most; i++) {
                int n = candidates.numberAt(i);
                if (!isIn(taken, n)) {
                    take(n);
                }
            }
        }

        private void take(int n) {
            row[size] = n;
            size++;
            taken |= 1 << n;
        }

        private boolean isNearestToVector(Documents documents, int n, int distanceToVector) {
            for (int i = 0; i < size; i++) {
                if (distanceToVector >= distance(documents.vector(n), documents.vector(row[i]))) {
                    return false;
                }
            }
            return true;
        }
    }

    /** The graph: how a document enters it, and how it is searched. */
    private static final class Graph {
        private static final int WIDTH_ABOVE = 1;
        private static final int WIDTH_TO_ENTER = 5;
        private static final int MOST_TO_ENTER = 3;

        private final Links links = new Links();
        private final Walker walker = new Walker();
        private final Chooser chooser = new Chooser();
        private final Ranking candidates = new Ranking();
        private int entry = NONE;
        private int seenInSearches;
        private int seenInEntering;

        int entry() {
            return entry;
        }

        int top() {
            return entry == NONE ? NONE : links.level(entry);
        }

        int seenInSearches() {
            return seenInSearches;
        }

        int seenInEntering() {
            return seenInEntering;
        }

        void clear() {
            links.clear();
            entry = NONE;
        }

        void enter(Documents documents, int n) {
            links.addNode(n);
            if (entry == NONE) {
                entry = n;
                return;
            }
            int level = links.level(n);
            walker.standAt(documents, documents.vector(n), entry);
            for (int layer = top(); layer >= 0; layer--) {
                boolean isAbove = layer > level;
                seenInEntering += walker.walk(links, layer, isAbove ? WIDTH_ABOVE : WIDTH_TO_ENTER);
                if (!isAbove) {
                    link(documents, n, layer);
                }
            }
            if (level > top()) {
                entry = n;
            }
        }

        /** The nodes of the walk below, the live ones and the others; the next walk changes them. */
        Ranking search(Documents documents, int[] v, int width) {
            if (entry == NONE) {
                walker.standNowhere();
            } else {
                walker.standAt(documents, v, entry);
                for (int layer = top(); layer >= 0; layer--) {
                    seenInSearches += walker.walk(links, layer, layer > 0 ? WIDTH_ABOVE : width);
                }
            }
            return walker.held();
        }

        private void link(Documents documents, int n, int layer) {
            chooser.choose(documents, walker.held(), MOST_TO_ENTER);
            links.replace(n, layer, chooser);
            for (int i = 0; i < links.degree(n, layer); i++) {
                int other = links.linked(n, layer, i);
                links.append(other, layer, n);
                if (links.degree(other, layer) > links.most(layer)) {
                    shorten(documents, other, layer);
                }
            }
        }

        private void shorten(Documents documents, int n, int layer) {
            candidates.start(DOCUMENTS, LEAST_FIRST);
            for (int i = 0; i < links.degree(n, layer); i++) {
                int other = links.linked(n, layer, i);
                candidates.add(other, distance(documents.vector(n), documents.vector(other)));
            }
            chooser.choose(documents, candidates, links.most(layer));
            links.replace(n, layer, chooser);
        }
    }
}
