/** Each promise of the document by itself, in ordinary use; EdgesTest goes along its edges. */
public final class PromisesTest {
    private static final int NONE = GraphSearch.NONE;
    private static final int LEAST = Integer.MIN_VALUE;
    private static final int MOST = Integer.MAX_VALUE;

    public static void main(String[] args) {
        aNewObject();
        node();
        move();
        drop();
        change();
        value();
        valueOfMates();
        best();
        reaches();
        line();
        ties();
        settled();
        of();
        around();
        look();
        Due.end();
    }

    private static void aNewObject() {
        GraphSearch game = new GraphSearch(5);
        Due.due("1: NONE", -1, () -> GraphSearch.NONE);
        Due.due("1: nodes", 0, () -> game.look(0));
        Due.due("1: moves", 0, () -> game.look(1));
        Due.due("1: of(0, 0)", NONE, () -> game.of(0, 0));
        Due.due("1: value(0, 0)", Due.ARGUMENT, () -> game.value(0, 0));
        Due.due("1: move(0, 0)", Due.ARGUMENT, () -> game.move(0, 0));
        Due.due("1: drop(0)", false, () -> game.drop(0));
        Due.due("1: change(0, 0)", false, () -> game.change(0, 0, false));
    }

    private static void node() {
        GraphSearch game = new GraphSearch(0);
        Due.due("2: node(-500)", 0, () -> game.node(-500, false));
        Due.due("2: node(-501)", Due.ARGUMENT, () -> game.node(-501, false));
        Due.due("2: node(501)", Due.ARGUMENT, () -> game.node(501, true));
        Due.due("2: node(least)", Due.ARGUMENT, () -> game.node(LEAST, true));
        Due.due("2: node(most)", Due.ARGUMENT, () -> game.node(MOST, true));
        Due.due("2: nodes after refusals", 1, () -> game.look(0));
        Due.due("2: node(500)", 1, () -> game.node(500, true));
        Due.due("2: worth of 0", -500, () -> game.of(0, 0));
        Due.due("2: worth of 1", 500, () -> game.of(1, 0));
        Due.due("2: lost of 0", 0, () -> game.of(0, 1));
        Due.due("2: lost of 1", 1, () -> game.of(1, 1));
        Due.due("2: moves of 1", 0, () -> game.of(1, 2));
    }

    private static void move() {
        GraphSearch game = Games.with(1, 2, 3);
        Due.due("3: move(0, 1)", 0, () -> game.move(0, 1));
        Due.due("3: move(0, 2)", 1, () -> game.move(0, 2));
        Due.due("3: move(0, 1) again", 2, () -> game.move(0, 1));
        Due.due("3: move to itself", 3, () -> game.move(0, 0));
        Due.due("3: move back", 0, () -> game.move(2, 0));
        for (int wrong : new int[] {3, -1, LEAST, MOST}) {
            Due.due("3: move(0, " + wrong + ")", Due.ARGUMENT, () -> game.move(0, wrong));
            Due.due("3: move(" + wrong + ", 0)", Due.ARGUMENT, () -> game.move(wrong, 0));
        }
        Due.due("3: moves after refusals", 5, () -> game.look(1));
        Due.due("3: moves of 0", 4, () -> game.of(0, 2));
        Due.due("3: target of move 2", 1, () -> game.of(0, 5));
        Due.due("3: target of move 3", 0, () -> game.of(0, 6));
    }

    private static void drop() {
        GraphSearch game = Games.with(10, 20, -30);
        Games.addMoves(game, 0, 1, 2);
        Games.addMoves(game, 1, 0);
        Games.addMoves(game, 2, 0);
        Due.due("4: value(0, 1) before", 30, () -> game.value(0, 1));
        Due.due("4: drop(0)", true, () -> game.drop(0));
        Due.due("4: the latest went", NONE, () -> game.of(0, 4));
        Due.due("4: the first stays", 1, () -> game.of(0, 3));
        Due.due("4: value(0, 1) after", -20, () -> game.value(0, 1));
        Due.due("4: moves of all", 3, () -> game.look(1));
        Due.due("4: drop(0) again", true, () -> game.drop(0));
        Due.due("4: drop(0) without moves", false, () -> game.drop(0));
        Due.due("4: moves of all at the end", 2, () -> game.look(1));
        Due.due("4: value without moves", 0, () -> game.value(0, 1));
        for (int wrong : new int[] {3, -1, LEAST, MOST}) {
            Due.due("4: drop(" + wrong + ")", false, () -> game.drop(wrong));
        }
    }

    private static void change() {
        GraphSearch game = Games.with(10, 20);
        Games.addMoves(game, 0, 1);
        Due.due("5: value before", 0, () -> game.value(0, 1));
        Due.due("5: change to lost", true, () -> game.change(1, -500, true));
        Due.due("5: value of a mate", 999, () -> game.value(0, 1));
        Due.due("5: worth told", -500, () -> game.of(1, 0));
        Due.due("5: change(501)", false, () -> game.change(1, 501, false));
        Due.due("5: change(-501)", false, () -> game.change(1, -501, false));
        Due.due("5: change(least)", false, () -> game.change(1, LEAST, false));
        Due.due("5: change(most)", false, () -> game.change(1, MOST, false));
        Due.due("5: worth after refusals", -500, () -> game.of(1, 0));
        Due.due("5: lost after refusals", 1, () -> game.of(1, 1));
        Due.due("5: change back", true, () -> game.change(1, 500, false));
        Due.due("5: value after", 0, () -> game.value(0, 1));
        Due.due("5: change of a node with moves", true, () -> game.change(0, -7, true));
        Due.due("5: its value is its worth", -7, () -> game.value(0, 0));
        Due.due("5: its move stays", 1, () -> game.of(0, 2));
        Due.due("5: lost, when its move goes", true, () -> game.drop(0));
        Due.due("5: value when lost", -1000, () -> game.value(0, 0));
        for (int wrong : new int[] {2, -1, LEAST, MOST}) {
            Due.due("5: change(" + wrong + ")", false, () -> game.change(wrong, 0, false));
        }
    }

    private static void value() {
        GraphSearch game = Games.with(10, -20, 30, 40);
        Games.addMoves(game, 0, 1, 2);
        Games.addMoves(game, 1, 0);
        Games.addMoves(game, 2, 3);
        Due.due("6: value(0, 0) is the worth", 10, () -> game.value(0, 0));
        Due.due("6: value(3, 0) without moves", 0, () -> game.value(3, 0));
        Due.due("6: value(3, 7) without moves", 0, () -> game.value(3, 7));
        Due.due("6: value(0, 1)", 20, () -> game.value(0, 1));
        Due.due("6: value(0, 2)", 10, () -> game.value(0, 2));
        Due.due("6: value(1, 7)", -10, () -> game.value(1, 7));
        Due.due("6: value(0, 7)", 20, () -> game.value(0, 7));
        GraphSearch far = Games.with(500, -500);
        Games.addMoves(far, 0, 1);
        Games.addMoves(far, 1, 0);
        Due.due("6: the greatest worth is no mate", -500, () -> far.value(1, 1));
        Due.due("6: the least worth is no mate", 500, () -> far.value(0, 1));
        GraphSearch alone = Games.with(-300);
        Games.addMoves(alone, 0, 0);
        for (int depth = 0; depth <= 7; depth++) {
            int asked = depth;
            Due.due("6: a move to itself, " + depth, depth % 2 == 0 ? -300 : 300, () -> alone.value(0, asked));
        }
    }

    private static void valueOfMates() {
        GraphSearch game = Games.rowToLost(7);
        int[] fromStart = {100, -101, 102, -103, 104, -105, 106, 993};
        for (int depth = 0; depth <= 7; depth++) {
            int asked = depth;
            Due.due("6: mate in 7, depth " + depth, fromStart[depth], () -> game.value(0, asked));
        }
        int[] bySteps = {-1000, 999, -998, 997, -996, 995, -994, 993};
        for (int steps = 0; steps <= 7; steps++) {
            int start = 7 - steps;
            Due.due("6: mate in " + steps, bySteps[steps], () -> game.value(start, 7));
        }
        // The nearer of two mates is the better one for the winner, the further one for the loser.
        GraphSearch choice = Games.rowToLost(4);
        choice.node(0, false);
        Games.addMoves(choice, 5, 1, 3);
        Due.due("6: the loser's choice", -996, () -> choice.value(5, 7));
        Due.due("6: the loser's move", 0, () -> choice.best(5, 7));
        choice.node(0, false);
        Games.addMoves(choice, 6, 0, 2);
        Due.due("6: the winner's choice", 997, () -> choice.value(6, 7));
        Due.due("6: the winner's move", 1, () -> choice.best(6, 7));
    }

    private static void best() {
        GraphSearch game = Games.with(0, 30, -30, -30, 5);
        for (int from = 1; from <= 3; from++) {
            Games.addMoves(game, from, 4);
        }
        Games.addMoves(game, 4, 0);
        Games.addMoves(game, 0, 1, 2, 3);
        Due.due("7: best at depth 0", NONE, () -> game.best(0, 0));
        Due.due("7: the first of two", 1, () -> game.best(0, 1));
        Due.due("7: all alike", 0, () -> game.best(0, 2));
        Due.due("7: best with one move", 0, () -> game.best(4, 7));
        GraphSearch none = Games.with(3);
        Due.due("7: best without moves", NONE, () -> none.best(0, 7));
    }

    private static void reaches() {
        GraphSearch game = Games.with(10, -20);
        Games.addMoves(game, 0, 1);
        Games.addMoves(game, 1, 0);
        Due.due("8: below", true, () -> game.reaches(0, 1, 19));
        Due.due("8: the same", true, () -> game.reaches(0, 1, 20));
        Due.due("8: above", false, () -> game.reaches(0, 1, 21));
        Due.due("8: another depth", false, () -> game.reaches(0, 2, 11));
        Due.due("8: least", true, () -> game.reaches(0, 1, LEAST));
        Due.due("8: most", false, () -> game.reaches(0, 1, MOST));
        GraphSearch lost = Games.rowToLost(0);
        Due.due("8: lost, -1000", true, () -> lost.reaches(0, 7, -1000));
        Due.due("8: lost, -999", false, () -> lost.reaches(0, 7, -999));
    }

    private static void line() {
        GraphSearch game = Games.rowToLost(3);
        for (int i = 0; i <= 3; i++) {
            int asked = i;
            Due.due("9: the mate's node " + i, i, () -> game.line(0, 7, asked));
        }
        Due.due("9: behind its end", NONE, () -> game.line(0, 7, 4));
        Due.due("9: node 0 at depth 0", 2, () -> game.line(2, 0, 0));
        Due.due("9: node 1 at depth 0", NONE, () -> game.line(2, 0, 1));
        Due.due("9: node 2 at depth 2", 2, () -> game.line(0, 2, 2));
        Due.due("9: node 3 at depth 2", NONE, () -> game.line(0, 2, 3));
        Due.due("9: i -1", NONE, () -> game.line(0, 7, -1));
        Due.due("9: i least", NONE, () -> game.line(0, 7, LEAST));
        Due.due("9: i most", NONE, () -> game.line(0, 7, MOST));
        Due.due("9: i 8", NONE, () -> game.line(0, 7, 8));
        lineGetsShallower();
    }

    /** Node 1's best move is 0 at depth 1, and 1 at depth 2: which one is taken tells the depth. */
    private static void lineGetsShallower() {
        GraphSearch game = Games.with(0, 0, -50, -10, 400, -400);
        Games.addMoves(game, 0, 1);
        Games.addMoves(game, 1, 2, 3);
        Games.addMoves(game, 2, 5);
        Games.addMoves(game, 3, 4);
        Games.addMoves(game, 4, 4);
        Games.addMoves(game, 5, 5);
        Due.due("9: best(1, 1)", 0, () -> game.best(1, 1));
        Due.due("9: best(1, 2)", 1, () -> game.best(1, 2));
        Due.due("9: line(0, 2, 2)", 2, () -> game.line(0, 2, 2));
        Due.due("9: line(0, 3, 2)", 3, () -> game.line(0, 3, 2));
    }

    private static void ties() {
        GraphSearch game = Games.with(0, 30, -30, -30, 5);
        Games.addMoves(game, 1, 4);
        Games.addMoves(game, 2, 4);
        Games.addMoves(game, 3, 4);
        Games.addMoves(game, 4, 4);
        Games.addMoves(game, 0, 1, 2, 3, 2);
        Due.due("10: three of four", 3, () -> game.ties(0, 1));
        Due.due("10: all", 4, () -> game.ties(0, 2));
        Due.due("10: at depth 0", 0, () -> game.ties(0, 0));
        Due.due("10: one move", 1, () -> game.ties(4, 7));
        GraphSearch mates = Games.rowToLost(1);
        Games.addMoves(mates, 0, 0, 1, 1);
        Due.due("10: mates behind the first one count", 3, () -> mates.ties(0, 7));
        Due.due("10: without moves", 0, () -> mates.ties(1, 7));
    }

    private static void settled() {
        GraphSearch game = Games.rowToLost(3);
        Due.due("11: a mate in 3", 3, () -> game.settled(0, 7));
        Due.due("11: up to where it is found", 3, () -> game.settled(0, 3));
        Due.due("11: before it is found", 2, () -> game.settled(0, 2));
        Due.due("11: depth 0", 0, () -> game.settled(0, 0));
        Due.due("11: without moves", 0, () -> game.settled(3, 7));
        GraphSearch restless = Games.with(9);
        Games.addMoves(restless, 0, 0);
        Due.due("11: another value each time", 7, () -> restless.settled(0, 7));
        GraphSearch steady = Games.with(0, 0);
        Games.addMoves(steady, 0, 1);
        Games.addMoves(steady, 1, 0);
        Due.due("11: the same from the start", 0, () -> steady.settled(0, 7));
        // Depths 0 .. 3 tell 5, -5, 5, 5: depth 0 has the same value, but not all from it on.
        GraphSearch back = Games.with(5, 5, 5, -5);
        Games.addMoves(back, 0, 1);
        Games.addMoves(back, 1, 2);
        Games.addMoves(back, 2, 3);
        Games.addMoves(back, 3, 3);
        Due.due("11: value at 0", 5, () -> back.value(0, 0));
        Due.due("11: value at 1", -5, () -> back.value(0, 1));
        Due.due("11: value at 3", 5, () -> back.value(0, 3));
        Due.due("11: not the first with that value", 2, () -> back.settled(0, 3));
    }

    private static void of() {
        GraphSearch game = new GraphSearch(0);
        game.node(-77, true);
        game.node(88, false);
        Games.addMoves(game, 0, 1, 0, 1, 0, 1, 0);
        Games.addMoves(game, 1, 0);
        int[] ofFull = {-77, 1, 6, 1, 0, 1, 0, 1, 0};
        int[] ofOther = {88, 0, 1, 0, NONE, NONE, NONE, NONE, NONE};
        for (int w = 0; w <= 8; w++) {
            int asked = w;
            Due.due("12: of(0, " + w + ")", ofFull[w], () -> game.of(0, asked));
            Due.due("12: of(1, " + w + ")", ofOther[w], () -> game.of(1, asked));
        }
        for (int wrong : new int[] {-1, 9, 10, LEAST, LEAST + 3, MOST}) {
            Due.due("12: of(0, " + wrong + ")", NONE, () -> game.of(0, wrong));
        }
        for (int wrong : new int[] {-1, 2, LEAST, MOST}) {
            for (int w = 0; w <= 8; w++) {
                int asked = w;
                Due.due("12: of(" + wrong + ", " + w + ")", NONE, () -> game.of(wrong, asked));
            }
        }
        game.node(-1, false);
        Due.due("12: a worth of -1", -1, () -> game.of(2, 0));
    }

    private static void around() {
        GraphSearch game = Games.rowToLost(8);
        for (int depth = 0; depth <= 7; depth++) {
            int asked = depth;
            Due.due("13: a row, depth " + depth, depth + 1, () -> game.around(0, asked));
        }
        Due.due("13: from its end", 1, () -> game.around(8, 7));
        Due.due("13: near its end", 3, () -> game.around(6, 7));
        GraphSearch rings = Games.with(0, 0, 0, 0, 0);
        Games.addMoves(rings, 0, 1, 2, 1, 0);
        Games.addMoves(rings, 1, 2, 3);
        Games.addMoves(rings, 2, 0);
        Games.addMoves(rings, 3, 4);
        Due.due("13: ring, depth 0", 1, () -> rings.around(0, 0));
        Due.due("13: ring, depth 1", 3, () -> rings.around(0, 1));
        Due.due("13: ring, depth 2", 4, () -> rings.around(0, 2));
        Due.due("13: ring, depth 3", 5, () -> rings.around(0, 3));
        Due.due("13: ring, depth 7", 5, () -> rings.around(0, 7));
        Due.due("13: ring, again", 1, () -> rings.around(0, 0));
        Due.due("13: moves lead one way", 1, () -> rings.around(4, 7));
        rings.drop(3);
        Due.due("13: after a drop", 4, () -> rings.around(0, 7));
    }

    private static void look() {
        GraphSearch game = Games.with(1, 2, 3);
        Games.addMoves(game, 0, 1, 2);
        Games.addMoves(game, 2, 2);
        Due.due("14: nodes", 3, () -> game.look(0));
        Due.due("14: moves", 3, () -> game.look(1));
        game.drop(0);
        Due.due("14: moves after a drop", 2, () -> game.look(1));
        game.node(4, true);
        Due.due("14: nodes after one more", 4, () -> game.look(0));
        for (int wrong : new int[] {-1, 2, 3, LEAST, MOST}) {
            Due.due("14: look(" + wrong + ")", NONE, () -> game.look(wrong));
        }
    }
}
