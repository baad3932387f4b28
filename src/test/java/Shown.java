import java.util.ArrayList;
import java.util.List;

/** What the calls of an object show of its game. */
final class Shown {
    /** A call that changes nothing, and can be made of any object. */
    interface Question {
        Object answer(GraphSearch game);
    }

    private final List<String> names = new ArrayList<>();
    private final List<Question> questions = new ArrayList<>();

    /** All questions about these nodes, of which there may be none such in the game: 2, and 85 for each node. */
    Shown(int... nodes) {
        add("look(0)", game -> game.look(0));
        add("look(1)", game -> game.look(1));
        for (int node : nodes) {
            for (int w = 0; w <= 8; w++) {
                int asked = w;
                add("of(" + node + ", " + w + ")", game -> game.of(node, asked));
            }
            for (int depth = 0; depth <= 7; depth++) {
                addAtDepth(node, depth);
            }
        }
    }

    private void add(String name, Question question) {
        names.add(name);
        questions.add(question);
    }

    private void addAtDepth(int node, int depth) {
        String asked = "(" + node + ", " + depth;
        add("value" + asked + ")", game -> game.value(node, depth));
        add("best" + asked + ")", game -> game.best(node, depth));
        add("reaches" + asked + ", 0)", game -> game.reaches(node, depth, 0));
        add("ties" + asked + ")", game -> game.ties(node, depth));
        add("settled" + asked + ")", game -> game.settled(node, depth));
        add("around" + asked + ")", game -> game.around(node, depth));
        for (int i = 1; i <= depth; i++) {
            int at = i;
            add("line" + asked + ", " + i + ")", game -> game.line(node, depth, at));
        }
    }

    int size() {
        return questions.size();
    }

    String name(int number) {
        return names.get(number);
    }

    Object ask(GraphSearch game, int number) {
        return Due.answerOf(() -> questions.get(number).answer(game));
    }

    List<Object> askAll(GraphSearch game) {
        List<Object> answers = new ArrayList<>();
        for (int number = 0; number < size(); number++) {
            answers.add(ask(game, number));
        }
        return answers;
    }

    /** Asks all questions and compares: each answer that differs is told by its question. */
    void due(String when, List<Object> want, GraphSearch game) {
        for (int number = 0; number < size(); number++) {
            int asked = number;
            Due.due(when + ": " + names.get(number), want.get(number), () -> questions.get(asked).answer(game));
        }
    }
}
