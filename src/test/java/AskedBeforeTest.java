import java.util.ArrayList;
import java.util.List;

/** "What is found does not hang on how much was asked before." */
public final class AskedBeforeTest {
    private static final Shown SHOWN = new Shown(0, 1, 2, 3, 4);

    public static void main(String[] args) {
        eachQuestionAlone();
        aQuestionBeforeEachStep();
        anotherWayToTheSameGame();
        afterEachChange();
        Due.end();
    }

    private static void addNodes(GraphSearch game) {
        game.node(12, false);
        game.node(-34, false);
        game.node(56, true);
        game.node(-78, false);
        game.node(90, false);
    }

    /** Has a mate in 3, ways back, moves that tie at some depths alone, and a node that is not come to. */
    private static GraphSearch someGame() {
        GraphSearch game = new GraphSearch(0);
        addNodes(game);
        Games.addMoves(game, 0, 1, 3);
        Games.addMoves(game, 1, 3, 0);
        Games.addMoves(game, 3, 2);
        Games.addMoves(game, 4, 0, 1, 4, 1);
        return game;
    }

    /** Each question of an object of its own, then all of one object from the first, and from the last. */
    private static void eachQuestionAlone() {
        List<Object> alone = new ArrayList<>();
        for (int number = 0; number < SHOWN.size(); number++) {
            alone.add(SHOWN.ask(someGame(), number));
        }
        SHOWN.due("from the first", alone, someGame());
        GraphSearch backwards = someGame();
        for (int number = SHOWN.size() - 1; number >= 0; number--) {
            int asked = number;
            Due.due("from the last: " + SHOWN.name(number), alone.get(number), () -> SHOWN.ask(backwards, asked));
        }
        GraphSearch deepFirst = someGame();
        deepFirst.value(4, 7);
        deepFirst.value(4, 7);
        SHOWN.due("the deepest first", alone, deepFirst);
    }

    private static void aQuestionBeforeEachStep() {
        List<Object> want = SHOWN.askAll(someGame());
        for (int depth = 0; depth <= 7; depth++) {
            GraphSearch game = new GraphSearch(0);
            addNodes(game);
            int[][] moves = {{0, 1}, {0, 3}, {1, 3}, {1, 0}, {3, 2}, {4, 0}, {4, 1}, {4, 4}, {4, 1}};
            for (int[] move : moves) {
                game.value(0, depth);
                game.settled(move[0], depth);
                game.around(move[0], depth);
                game.move(move[0], move[1]);
            }
            SHOWN.due("asked at depth " + depth + " before each move", want, game);
        }
    }

    /** The game comes to be the same by moves that go again, and by worths that are changed and changed back. */
    private static void anotherWayToTheSameGame() {
        List<Object> want = SHOWN.askAll(someGame());
        GraphSearch game = someGame();
        game.move(3, 4);
        game.value(3, 7);
        game.drop(3);
        game.change(2, 56, false);
        game.value(0, 7);
        game.around(0, 7);
        game.change(2, 56, true);
        game.change(4, -500, true);
        game.line(4, 7, 7);
        game.change(4, 90, false);
        SHOWN.due("by another way", want, game);
    }

    private static void afterEachChange() {
        GraphSearch game = Games.with(10, 20);
        Games.addMoves(game, 0, 1);
        Games.addMoves(game, 1, 0);
        Due.due("deep first", -20, () -> game.value(0, 7));
        Due.due("then shallow", 10, () -> game.value(0, 0));
        game.change(1, 21, false);
        Due.due("after change", -21, () -> game.value(0, 7));
        game.node(0, true);
        Due.due("after node", -21, () -> game.value(0, 7));
        game.move(0, 2);
        Due.due("after move", 999, () -> game.value(0, 7));
        Due.due("best after move", 1, () -> game.best(0, 7));
        Due.due("around after move", 3, () -> game.around(0, 1));
        game.drop(0);
        Due.due("after drop", -21, () -> game.value(0, 7));
        Due.due("around after drop", 2, () -> game.around(0, 7));
        Due.due("the new node", -1000, () -> game.value(2, 7));
        game.node(0, true);
        Due.due("the newer node, asked at once", -1000, () -> game.value(3, 3));
    }
}
