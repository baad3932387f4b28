import java.util.ArrayList;
import java.util.List;

/** "Of several exceptions the first one listed is thrown. What throws, or answers false, changes nothing." */
public final class RefusedCallsTest {
    private static final int LEAST = Integer.MIN_VALUE;
    private static final int MOST = Integer.MAX_VALUE;
    private static final int[] NO_NODES = {4, 5, -1, 400, LEAST, MOST};
    private static final int[] NO_WORTHS = {-501, 501, LEAST, MOST};
    private static final int[] NO_DEPTHS = {-1, 8, LEAST, MOST};
    /** Node 4 is the first that there is not: it must stay so. */
    private static final Shown SHOWN = new Shown(0, 1, 2, 3, 4);

    /** The answers after no refused call at all. */
    private static final List<Object> WANT = SHOWN.askAll(someGame());
    private static final List<Object> WANT_OF_CHANGES = changes(someGame());

    public static void main(String[] args) {
        theFirstExceptionListed();
        node();
        move();
        drop();
        change();
        questionsOfNoNode();
        questionsOfNoDepth();
        askedForNone();
        whenThereAre400();
        Due.end();
    }

    /** Node 0 is full, node 1 and 3 have some moves, node 2 is LOST and has none. */
    private static GraphSearch someGame() {
        GraphSearch game = new GraphSearch(0);
        game.node(10, false);
        game.node(-20, true);
        game.node(30, true);
        game.node(-40, false);
        Games.addMoves(game, 0, 1, 3, 3, 1, 0, 1);
        Games.addMoves(game, 1, 0, 2, 3);
        Games.addMoves(game, 3, 1);
        return game;
    }

    /** What the changes that are made after a refused call answer, and where they lead. */
    private static List<Object> changes(GraphSearch game) {
        List<Object> answers = new ArrayList<>();
        answers.add(game.drop(1));
        answers.add(game.move(1, 0));
        answers.add(game.move(2, 1));
        answers.add(game.drop(0));
        answers.add(game.node(5, true));
        answers.add(game.of(4, 0));
        answers.add(game.of(4, 2));
        answers.add(game.move(0, 4));
        answers.add(game.of(0, 8));
        answers.add(game.value(0, 7));
        answers.add(game.change(4, 6, false));
        answers.add(game.value(0, 7));
        answers.add(game.value(2, 3));
        answers.add(game.look(0));
        answers.add(game.look(1));
        return answers;
    }

    /** Makes the call in a game that was asked nothing, in one whose table is filled, and between changes. */
    private static void refused(String name, Object want, Shown.Question call) {
        GraphSearch asked = someGame();
        asked.value(0, 7);
        Due.due(name + " when asked before", want, () -> call.answer(asked));
        SHOWN.due("after " + name + " when asked before", WANT, asked);
        GraphSearch fresh = someGame();
        Due.due(name, want, () -> call.answer(fresh));
        SHOWN.due("after " + name, WANT, fresh);
        GraphSearch changed = someGame();
        Due.due(name + " before changes", want, () -> call.answer(changed));
        Due.due("changes after " + name, WANT_OF_CHANGES, () -> changes(changed));
    }

    private static void theFirstExceptionListed() {
        GraphSearch full = Games.full();
        for (int worth : NO_WORTHS) {
            Due.due("full, node(" + worth + ")", Due.ARGUMENT, () -> full.node(worth, true));
        }
        Due.due("full, node(500)", Due.STATE, () -> full.node(500, true));
        Due.due("full, node(-500)", Due.STATE, () -> full.node(-500, true));
        GraphSearch game = someGame();
        for (int wrong : NO_NODES) {
            Due.due("six moves, move(0, " + wrong + ")", Due.ARGUMENT, () -> game.move(0, wrong));
            Due.due("six moves, move(" + wrong + ", 0)", Due.ARGUMENT, () -> game.move(wrong, 0));
        }
        Due.due("six moves, move(0, 3)", Due.STATE, () -> game.move(0, 3));
        Due.due("three moves, move(1, 0)", 3, () -> game.move(1, 0));
    }

    private static void node() {
        for (int worth : NO_WORTHS) {
            refused("node(" + worth + ", true)", Due.ARGUMENT, game -> game.node(worth, true));
            refused("node(" + worth + ", false)", Due.ARGUMENT, game -> game.node(worth, false));
        }
    }

    private static void move() {
        for (int wrong : NO_NODES) {
            refused("move(0, " + wrong + ")", Due.ARGUMENT, game -> game.move(0, wrong));
            refused("move(1, " + wrong + ")", Due.ARGUMENT, game -> game.move(1, wrong));
            refused("move(" + wrong + ", 1)", Due.ARGUMENT, game -> game.move(wrong, 1));
            refused("move(" + wrong + ", same)", Due.ARGUMENT, game -> game.move(wrong, wrong));
        }
        for (int to = 0; to <= 3; to++) {
            int leadsTo = to;
            refused("move(0, " + to + ")", Due.STATE, game -> game.move(0, leadsTo));
        }
    }

    private static void drop() {
        for (int wrong : NO_NODES) {
            refused("drop(" + wrong + ")", false, game -> game.drop(wrong));
        }
        refused("drop(2)", false, game -> game.drop(2));
    }

    private static void change() {
        for (int wrong : NO_NODES) {
            refused("change(" + wrong + ", 7)", false, game -> game.change(wrong, 7, true));
            refused("change(" + wrong + ", 501)", false, game -> game.change(wrong, 501, true));
        }
        for (int worth : NO_WORTHS) {
            refused("change(0, " + worth + ", true)", false, game -> game.change(0, worth, true));
            refused("change(1, " + worth + ", false)", false, game -> game.change(1, worth, false));
            refused("change(2, " + worth + ", false)", false, game -> game.change(2, worth, false));
        }
    }

    private static void questionsOfNoNode() {
        for (int wrong : NO_NODES) {
            questions(wrong, 0);
            questions(wrong, 7);
        }
    }

    private static void questionsOfNoDepth() {
        for (int wrong : NO_DEPTHS) {
            questions(0, wrong);
            questions(4, wrong);
        }
    }

    private static void questions(int node, int depth) {
        String asked = "(" + node + ", " + depth + ")";
        refused("value" + asked, Due.ARGUMENT, game -> game.value(node, depth));
        refused("best" + asked, Due.ARGUMENT, game -> game.best(node, depth));
        refused("reaches" + asked, Due.ARGUMENT, game -> game.reaches(node, depth, 0));
        refused("line" + asked, Due.ARGUMENT, game -> game.line(node, depth, 1));
        refused("ties" + asked, Due.ARGUMENT, game -> game.ties(node, depth));
        refused("settled" + asked, Due.ARGUMENT, game -> game.settled(node, depth));
        refused("around" + asked, Due.ARGUMENT, game -> game.around(node, depth));
    }

    /** These refuse nothing, but tell NONE, and change as little. */
    private static void askedForNone() {
        for (int wrong : new int[] {-1, 9, LEAST, MOST}) {
            refused("of(0, " + wrong + ")", GraphSearch.NONE, game -> game.of(0, wrong));
            refused("line(0, 7, " + wrong + ")", GraphSearch.NONE, game -> game.line(0, 7, wrong));
            refused("look(" + wrong + ")", GraphSearch.NONE, game -> game.look(wrong));
        }
    }

    /** The last node, and the one that would be next, when the game takes no more. */
    private static void whenThereAre400() {
        Shown last = new Shown(399);
        GraphSearch game = Games.full();
        game.move(399, 398);
        game.move(398, 397);
        List<Object> want = last.askAll(game);
        for (int worth : new int[] {-500, 0, 500, 501}) {
            GraphSearch refusing = Games.full();
            refusing.move(399, 398);
            refusing.move(398, 397);
            Object exception = worth == 501 ? Due.ARGUMENT : Due.STATE;
            Due.due("node(" + worth + ") when full", exception, () -> refusing.node(worth, true));
            last.due("after node(" + worth + ") when full", want, refusing);
            Due.due("of(400, 0)", GraphSearch.NONE, () -> refusing.of(400, 0));
            Due.due("value(400, 0)", Due.ARGUMENT, () -> refusing.value(400, 0));
            Due.due("of(398, 0)", 198, () -> refusing.of(398, 0));
            Due.due("of(0, 0)", -200, () -> refusing.of(0, 0));
            Due.due("of(0, 1)", 1, () -> refusing.of(0, 1));
        }
    }
}
