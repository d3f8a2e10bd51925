import java.util.ArrayList;
import java.util.List;
import java.util.function.Consumer;
import java.util.function.Function;
import java.util.function.Supplier;

/**
 * Holds a desk on which a call was made that changes nothing against its twin on which it was not.
 * Each question goes to new desks, so that none disturbs another and all stay below 512 calls.
 */
final class Twins {
    private final Checks checks;
    private final String state;
    private final Supplier<NearDesk> make;
    private final List<Function<NearDesk, String>> questions = new ArrayList<>();
    private final List<String> due = new ArrayList<>();

    Twins(Checks checks, String state, Supplier<NearDesk> make) {
        this.checks = checks;
        this.state = state;
        this.make = make;
        addQuestions();
        for (Function<NearDesk, String> question : questions) {
            due.add(question.apply(make.get()));
        }
    }

    void unchanged(String call, Consumer<NearDesk> made) {
        for (int i = 0; i < due.size(); i++) {
            NearDesk desk = make.get();
            made.accept(desk);
            checks.same(state + " after " + call, questions.get(i).apply(desk), due.get(i));
        }
    }

    private void addQuestions() {
        for (int n = 0; n < 30; n++) {
            int number = n;
            questions.add(desk -> nodeText(desk, number));
        }
        questions.add(Twins::counts);
        questions.add(desk -> "FOUND: " + foundText(desk));
        questions.add(desk -> "exact: " + desk.exact(10) + foundText(desk));
        questions.add(desk -> "near: " + desk.near(10, 10) + foundText(desk) + counts(desk));
        questions.add(desk -> "match: " + desk.match(10, 255) + foundText(desk));
        questions.add(desk -> "fuse: " + desk.fuse(10, 255) + foundText(desk) + counts(desk));
        questions.add(Twins::putText);
        questions.add(desk -> "renew: " + desk.renew() + counts(desk));
        questions.add(Twins::removeText);
    }

    private static String nodeText(NearDesk desk, int n) {
        StringBuilder text = new StringBuilder("node " + n + ":");
        for (int what = 0; what < 14; what++) {
            text.append(' ').append(desk.node(n, what));
        }
        for (int layer = 0; layer < 4; layer++) {
            for (int i = 0; i < 7; i++) {
                text.append(' ').append(desk.neighbour(n, layer, i));
            }
        }
        return text.toString();
    }

    private static String counts(NearDesk desk) {
        StringBuilder text = new StringBuilder(" counts:");
        for (int what = 0; what < 10; what++) {
            text.append(' ').append(desk.count(what));
        }
        return text.toString();
    }

    private static String foundText(NearDesk desk) {
        StringBuilder text = new StringBuilder(" found:");
        for (int i = 0; i <= 10; i++) {
            for (int what = 0; what < 3; what++) {
                text.append(' ').append(desk.found(i, what));
            }
        }
        return text.toString();
    }

    private static String putText(NearDesk desk) {
        int n = desk.put(33, 44, 55, 66, 77);
        return "put: " + n + nodeText(desk, n) + counts(desk);
    }

    private static String removeText(NearDesk desk) {
        StringBuilder text = new StringBuilder("remove:");
        for (int n = 0; n < 30; n++) {
            text.append(desk.remove(n) ? " true" : " false");
        }
        return text.toString();
    }
}
