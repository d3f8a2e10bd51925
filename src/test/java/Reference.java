import java.util.ArrayDeque;
import java.util.ArrayList;
import java.util.Comparator;
import java.util.Deque;
import java.util.HashMap;
import java.util.HashSet;
import java.util.LinkedHashSet;
import java.util.List;
import java.util.Map;
import java.util.Set;
import java.util.TreeMap;

/**
 * The document's words as they stand, with the Java library and no thought of cost: what NearDesk is
 * held against.
 */
final class Reference {
    private static final class Doc {
        final int number;
        final int[] vector;
        final int words;
        boolean live = true;
        int level;
        int order;
        List<List<Doc>> neighbours = new ArrayList<>();

        Doc(int number, int[] vector, int words) {
            this.number = number;
            this.vector = vector;
            this.words = words;
        }

        int countOf(int w) {
            return words / (1 << (3 * w)) % 8;
        }
    }

    private record Hit(int number, int value) {
    }

    private final TreeMap<Integer, Doc> nodes = new TreeMap<>();
    private int[] asked = {0, 0, 0, 0};
    private List<Hit> hits = List.of();
    private int seenInSearches;
    private int seenInEntering;

    private static int distance(int[] v, int[] w) {
        int sum = 0;
        for (int i = 0; i < 4; i++) {
            sum += (v[i] - w[i]) * (v[i] - w[i]);
        }
        return sum;
    }

    private static Comparator<Doc> nearerTo(int[] v) {
        return Comparator.<Doc>comparingInt(d -> distance(d.vector, v)).thenComparingInt(d -> d.number);
    }

    private static List<Doc> nearestFirst(Iterable<Doc> docs, int[] v) {
        List<Doc> sorted = new ArrayList<>();
        docs.forEach(sorted::add);
        sorted.sort(nearerTo(v));
        return sorted;
    }

    private Doc entry() {
        Doc entry = null;
        for (Doc d : nodes.values()) {
            if (entry == null || d.level > entry.level || d.level == entry.level && d.order < entry.order) {
                entry = d;
            }
        }
        return entry;
    }

    private List<Doc> walk(int layer, int[] v, List<Doc> from, int width, boolean forSearch) {
        Comparator<Doc> nearer = nearerTo(v);
        Set<Doc> seen = new HashSet<>(from);
        List<Doc> held = nearestFirst(from, v);
        while (held.size() > width) {
            held.remove(held.size() - 1);
        }
        Set<Doc> open = new HashSet<>(held);
        while (!open.isEmpty()) {
            Doc next = nearestFirst(open, v).get(0);
            open.remove(next);
            if (held.size() == width && nearer.compare(nearestFirst(held, v).get(width - 1), next) < 0) {
                break;
            }
            for (Doc other : next.neighbours.get(layer)) {
                if (!seen.add(other)) {
                    continue;
                }
                List<Doc> sorted = nearestFirst(held, v);
                if (held.size() < width || nearer.compare(other, sorted.get(sorted.size() - 1)) < 0) {
                    held.add(other);
                    open.add(other);
                    if (held.size() > width) {
                        held.remove(sorted.get(sorted.size() - 1));
                    }
                }
            }
        }
        if (forSearch) {
            seenInSearches += seen.size();
        } else {
            seenInEntering += seen.size();
        }
        return nearestFirst(held, v);
    }

    private static List<Doc> choose(List<Doc> some, int most, int[] v) {
        LinkedHashSet<Doc> chosen = new LinkedHashSet<>();
        List<Doc> sorted = nearestFirst(some, v);
        for (Doc d : sorted) {
            if (chosen.size() < most
                    && chosen.stream().allMatch(c -> distance(d.vector, v) < distance(d.vector, c.vector))) {
                chosen.add(d);
            }
        }
        for (Doc d : sorted) {
            if (chosen.size() < most) {
                chosen.add(d);
            }
        }
        return new ArrayList<>(chosen);
    }

    private void enter(Doc d) {
        Doc entry = entry();
        d.order = nodes.size() + 1;
        d.level = d.order % 27 == 0 ? 3 : d.order % 9 == 0 ? 2 : d.order % 3 == 0 ? 1 : 0;
        d.neighbours = new ArrayList<>();
        for (int layer = 0; layer <= d.level; layer++) {
            d.neighbours.add(new ArrayList<>());
        }
        nodes.put(d.number, d);
        if (entry == null) {
            return;
        }
        List<Doc> where = List.of(entry);
        for (int layer = entry.level; layer > d.level; layer--) {
            where = walk(layer, d.vector, where, 1, false);
        }
        for (int layer = Math.min(d.level, entry.level); layer >= 0; layer--) {
            where = walk(layer, d.vector, where, 5, false);
            d.neighbours.set(layer, choose(where, 3, d.vector));
            int most = layer == 0 ? 6 : 3;
            for (Doc other : d.neighbours.get(layer)) {
                List<Doc> row = other.neighbours.get(layer);
                row.add(d);
                if (row.size() > most) {
                    other.neighbours.set(layer, choose(row, most, other.vector));
                }
            }
        }
    }

    private List<Doc> search(int width) {
        Doc entry = entry();
        if (entry == null) {
            return List.of();
        }
        List<Doc> where = List.of(entry);
        for (int layer = entry.level; layer >= 1; layer--) {
            where = walk(layer, asked, where, 1, true);
        }
        where = new ArrayList<>(walk(0, asked, where, width, true));
        where.removeIf(d -> !d.live);
        return where;
    }

    private List<Doc> live() {
        List<Doc> live = new ArrayList<>(nodes.values());
        live.removeIf(d -> !d.live);
        return live;
    }

    private int score(Doc d, int set) {
        int sum = 0;
        for (int w = 0; w < 8; w++) {
            int word = w;
            int c = d.countOf(w);
            if ((set & 1 << w) != 0 && c > 0) {
                int having = (int) live().stream().filter(o -> o.countOf(word) > 0).count();
                sum += (100 * c / (c + 1)) * (1 + live().size() / having);
            }
        }
        return sum;
    }

    private static List<Hit> greatestFirst(List<Hit> some) {
        List<Hit> sorted = new ArrayList<>(some);
        sorted.sort(Comparator.<Hit>comparingInt(h -> -h.value()).thenComparingInt(Hit::number));
        return sorted;
    }

    private List<Hit> list(int set) {
        List<Hit> all = new ArrayList<>();
        for (Doc d : live()) {
            int score = score(d, set);
            if (score > 0) {
                all.add(new Hit(d.number, score));
            }
        }
        return greatestFirst(all);
    }

    private List<Hit> withDistances(List<Doc> docs) {
        List<Hit> all = new ArrayList<>();
        for (Doc d : docs) {
            all.add(new Hit(d.number, distance(d.vector, asked)));
        }
        return all;
    }

    private static <T> List<T> first(int k, List<T> all) {
        return new ArrayList<>(all.subList(0, Math.min(k, all.size())));
    }

    private static boolean within(int number, int least, int most) {
        return least <= number && number <= most;
    }

    private static boolean isVector(int... v) {
        for (int c : v) {
            if (!within(c, 0, 99)) {
                return false;
            }
        }
        return true;
    }

    int put(int a, int b, int c, int d, int words) {
        if (!isVector(a, b, c, d) || !within(words, 0, 16777215)) {
            return -1;
        }
        if (nodes.size() == 30) {
            return -3;
        }
        int n = 0;
        while (nodes.containsKey(n)) {
            n++;
        }
        enter(new Doc(n, new int[] {a, b, c, d}, words));
        return n;
    }

    boolean remove(int n) {
        Doc d = nodes.get(n);
        if (d == null || !d.live) {
            return false;
        }
        d.live = false;
        return true;
    }

    int renew() {
        int before = nodes.size();
        List<Doc> live = live();
        nodes.clear();
        live.forEach(this::enter);
        return before - live.size();
    }

    boolean ask(int a, int b, int c, int d) {
        if (!isVector(a, b, c, d)) {
            return false;
        }
        asked = new int[] {a, b, c, d};
        return true;
    }

    int near(int k, int width) {
        if (!within(k, 1, 10) || !within(width, 1, 10)) {
            return -1;
        }
        hits = first(k, withDistances(search(Math.max(k, width))));
        return hits.size();
    }

    int exact(int k) {
        if (!within(k, 1, 10)) {
            return -1;
        }
        hits = first(k, withDistances(nearestFirst(live(), asked)));
        return hits.size();
    }

    int match(int k, int set) {
        if (!within(k, 1, 10) || !within(set, 0, 255)) {
            return -1;
        }
        hits = first(k, list(set));
        return hits.size();
    }

    int fuse(int k, int set) {
        if (!within(k, 1, 10) || !within(set, 0, 255)) {
            return -1;
        }
        Map<Integer, Integer> points = new HashMap<>();
        for (List<Hit> one : List.of(first(10, list(set)), first(10, withDistances(search(10))))) {
            for (int p = 0; p < one.size(); p++) {
                points.merge(one.get(p).number(), 1000 / (10 + p), Integer::sum);
            }
        }
        List<Hit> all = new ArrayList<>();
        points.forEach((number, value) -> all.add(new Hit(number, value)));
        hits = first(k, greatestFirst(all));
        return hits.size();
    }

    int found(int i, int what) {
        if (!within(what, 0, 2)) {
            return -1;
        }
        if (!within(i, 0, hits.size() - 1)) {
            return -2;
        }
        Hit hit = hits.get(i);
        boolean lives = nodes.containsKey(hit.number()) && nodes.get(hit.number()).live;
        return what == 0 ? hit.number() : what == 1 ? hit.value() : lives ? 1 : 0;
    }

    int node(int n, int what) {
        if (!within(what, 0, 7) && !within(what, 10, 13)) {
            return -1;
        }
        Doc d = nodes.get(n);
        if (d == null) {
            return -2;
        }
        if (what >= 10) {
            return what - 10 <= d.level ? d.neighbours.get(what - 10).size() : -2;
        }
        int[] answers = {d.level, d.order, d.live ? 1 : 0,
            d.vector[0], d.vector[1], d.vector[2], d.vector[3], d.words};
        return answers[what];
    }

    int neighbour(int n, int layer, int i) {
        Doc d = nodes.get(n);
        if (d == null || !within(layer, 0, d.level) || !within(i, 0, d.neighbours.get(layer).size() - 1)) {
            return -2;
        }
        return d.neighbours.get(layer).get(i).number;
    }

    int count(int what) {
        Doc entry = entry();
        return switch (what) {
            case 0 -> nodes.size();
            case 1 -> live().size();
            case 2 -> entry == null ? -2 : entry.number;
            case 3 -> entry == null ? -2 : entry.level;
            case 4 -> seenInSearches;
            case 5 -> seenInEntering;
            case 6 -> hits.size();
            case 7 -> (int) hits.stream().filter(h -> isAmongNearest(h.number(), hits.size())).count();
            case 8 -> oneSidedPairs();
            case 9 -> comeTo(entry);
            default -> -1;
        };
    }

    private boolean isAmongNearest(int number, int many) {
        return first(many, nearestFirst(live(), asked)).stream().anyMatch(d -> d.number == number);
    }

    private int oneSidedPairs() {
        int pairs = 0;
        for (Doc x : nodes.values()) {
            for (Doc y : nodes.values()) {
                if (x.neighbours.get(0).contains(y) && !y.neighbours.get(0).contains(x)) {
                    pairs++;
                }
            }
        }
        return pairs;
    }

    private static int comeTo(Doc entry) {
        Set<Doc> reached = new HashSet<>();
        Deque<Doc> next = new ArrayDeque<>();
        if (entry != null) {
            next.add(entry);
        }
        while (!next.isEmpty()) {
            Doc d = next.remove();
            if (reached.add(d)) {
                next.addAll(d.neighbours.get(0));
            }
        }
        return reached.size();
    }
}
