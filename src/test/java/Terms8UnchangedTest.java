import java.util.ArrayList;
import java.util.List;
import java.util.function.Supplier;
import java.util.function.ToIntFunction;

/**
 * "A call that answers REFUSED, FULL or NONE changes nothing; REFUSED is tested first." And so do a
 * remove or an ask that answers false, and the calls that only look.
 */
public final class Terms8UnchangedTest {
    private record Call(String name, ToIntFunction<NearDesk> on, int due) {
    }

    private static final int[] NOT_ZERO_TO_99 = {-1, 100, Integer.MIN_VALUE, Integer.MAX_VALUE};
    private static final int[] NOT_ONE_TO_TEN = {0, -1, 11, Integer.MIN_VALUE, Integer.MAX_VALUE};
    private static final int[] NO_SET = {-1, 256, Integer.MIN_VALUE, Integer.MAX_VALUE};
    private static final int[] NO_NUMBER = {-1, 30, 32, Integer.MIN_VALUE, Integer.MAX_VALUE};

    private final Checks checks = new Checks();

    public static void main(String[] args) {
        Terms8UnchangedTest test = new Terms8UnchangedTest();
        test.inState("a new object", NearDesk::new, emptyCalls());
        test.inState("some documents", Desks::some, someCalls());
        test.inState("a full one", Desks::fullOfSome, fullCalls());
        test.checks.end();
    }

    private void inState(String state, Supplier<NearDesk> make, List<Call> own) {
        Twins twins = new Twins(checks, state, make);
        List<Call> calls = new ArrayList<>(own);
        addRefusedPuts(calls);
        addFalseAsks(calls);
        addRefusedSearches(calls);
        addRefusedLooks(calls);
        addNowhere(calls);
        for (Call call : calls) {
            checks.same(state + ": " + call.name(), call.on().applyAsInt(make.get()), call.due());
            twins.unchanged(call.name(), call.on()::applyAsInt);
        }
        twins.unchanged("looking at all", Terms8UnchangedTest::lookAtAll);
    }

    /** There is nothing, so REFUSED and NONE are both due for these: REFUSED is tested first. */
    private static List<Call> emptyCalls() {
        List<Call> calls = new ArrayList<>();
        calls.add(new Call("count(2) NONE", d -> d.count(2), NearDesk.NONE));
        calls.add(new Call("count(3) NONE", d -> d.count(3), NearDesk.NONE));
        calls.add(new Call("remove(0)", d -> d.remove(0) ? 1 : 0, 0));
        calls.add(new Call("node(0, 0) NONE", d -> d.node(0, 0), NearDesk.NONE));
        calls.add(new Call("neighbour(0, 0, 0) NONE", d -> d.neighbour(0, 0, 0), NearDesk.NONE));
        calls.add(new Call("found(0, 0) NONE", d -> d.found(0, 0), NearDesk.NONE));
        return calls;
    }

    private static List<Call> someCalls() {
        List<Call> calls = new ArrayList<>();
        calls.add(new Call("remove(2), removed before", d -> d.remove(2) ? 1 : 0, 0));
        calls.add(new Call("remove(13), never put", d -> d.remove(13) ? 1 : 0, 0));
        calls.add(new Call("node(13, 0) NONE", d -> d.node(13, 0), NearDesk.NONE));
        calls.add(new Call("node(0, 11) NONE", d -> d.node(0, 11), NearDesk.NONE));
        calls.add(new Call("found(6, 0) NONE", d -> d.found(6, 0), NearDesk.NONE));
        return calls;
    }

    private static List<Call> fullCalls() {
        List<Call> calls = new ArrayList<>();
        calls.add(new Call("put FULL", d -> d.put(0, 0, 0, 0, 0), NearDesk.FULL));
        calls.add(new Call("put FULL", d -> d.put(99, 99, 99, 99, 16777215), NearDesk.FULL));
        calls.add(new Call("remove(29), removed before", d -> d.remove(29) ? 1 : 0, 0));
        calls.add(new Call("node(26, 13)", d -> d.node(26, 13), 0));
        calls.add(new Call("node(8, 13) NONE", d -> d.node(8, 13), NearDesk.NONE));
        return calls;
    }

    private static void addRefusedPuts(List<Call> calls) {
        int[] notWords = {-1, 16777216, Integer.MIN_VALUE, Integer.MAX_VALUE};
        for (int at = 0; at < 5; at++) {
            for (int wrong : at < 4 ? NOT_ZERO_TO_99 : notWords) {
                int[] p = {5, 5, 5, 5, 5};
                p[at] = wrong;
                calls.add(new Call("put with " + wrong + " at " + at,
                        d -> d.put(p[0], p[1], p[2], p[3], p[4]), NearDesk.REFUSED));
            }
        }
    }

    private static void addFalseAsks(List<Call> calls) {
        for (int at = 0; at < 4; at++) {
            for (int wrong : NOT_ZERO_TO_99) {
                int[] p = {5, 5, 5, 5};
                p[at] = wrong;
                calls.add(new Call("ask with " + wrong + " at " + at,
                        d -> d.ask(p[0], p[1], p[2], p[3]) ? 1 : 0, 0));
            }
        }
    }

    private static void addRefusedSearches(List<Call> calls) {
        for (int k : NOT_ONE_TO_TEN) {
            calls.add(new Call("near(" + k + ", 5)", d -> d.near(k, 5), NearDesk.REFUSED));
            calls.add(new Call("near(5, " + k + ")", d -> d.near(5, k), NearDesk.REFUSED));
            calls.add(new Call("exact(" + k + ")", d -> d.exact(k), NearDesk.REFUSED));
            calls.add(new Call("match(" + k + ", 255)", d -> d.match(k, 255), NearDesk.REFUSED));
            calls.add(new Call("fuse(" + k + ", 255)", d -> d.fuse(k, 255), NearDesk.REFUSED));
        }
        for (int set : NO_SET) {
            calls.add(new Call("match(10, " + set + ")", d -> d.match(10, set), NearDesk.REFUSED));
            calls.add(new Call("fuse(10, " + set + ")", d -> d.fuse(10, set), NearDesk.REFUSED));
        }
    }

    /** With a number of which there is none such, too: REFUSED is tested first. */
    private static void addRefusedLooks(List<Call> calls) {
        for (int what : new int[] {-1, 3, Integer.MIN_VALUE, Integer.MAX_VALUE}) {
            for (int i : new int[] {0, -1, 10}) {
                calls.add(new Call("found(" + i + ", " + what + ")", d -> d.found(i, what), NearDesk.REFUSED));
            }
        }
        for (int what : new int[] {-1, 8, 9, 14, Integer.MIN_VALUE, Integer.MAX_VALUE}) {
            for (int n : new int[] {0, -1, 30}) {
                calls.add(new Call("node(" + n + ", " + what + ")", d -> d.node(n, what), NearDesk.REFUSED));
            }
        }
        for (int what : new int[] {-1, 10, Integer.MIN_VALUE, Integer.MAX_VALUE}) {
            calls.add(new Call("count(" + what + ")", d -> d.count(what), NearDesk.REFUSED));
        }
    }

    private static void addNowhere(List<Call> calls) {
        for (int n : NO_NUMBER) {
            calls.add(new Call("remove(" + n + ")", d -> d.remove(n) ? 1 : 0, 0));
            calls.add(new Call("found(" + n + ", 2)", d -> d.found(n, 2), NearDesk.NONE));
            calls.add(new Call("node(" + n + ", 7)", d -> d.node(n, 7), NearDesk.NONE));
            calls.add(new Call("neighbour(" + n + ", 0, 0)", d -> d.neighbour(n, 0, 0), NearDesk.NONE));
            calls.add(new Call("neighbour(0, " + n + ", 0)", d -> d.neighbour(0, n, 0), NearDesk.NONE));
            calls.add(new Call("neighbour(0, 0, " + n + ")", d -> d.neighbour(0, 0, n), NearDesk.NONE));
        }
    }

    private static void lookAtAll(NearDesk desk) {
        for (int what = 0; what < 10; what++) {
            desk.count(what);
        }
        for (int what = 0; what < 3; what++) {
            desk.found(0, what);
        }
        for (int what = 0; what < 14; what++) {
            desk.node(1, what);
        }
        for (int i = 0; i < 6; i++) {
            desk.neighbour(1, 0, i);
        }
    }
}
