/** Each sentence of the document's "Terms" that names a bound has a test of its own here, which quotes it. */
public final class TermsTest {
    private static final int NONE = GraphSearch.NONE;
    private static final int[] NO_DEPTHS = {-1, 8, 9, Integer.MIN_VALUE, Integer.MAX_VALUE};

    public static void main(String[] args) {
        nodesAreAtMost400();
        worthsAreFromLeastToMost();
        movesAreAtMost6();
        severalMovesToOneNode();
        movesBackToNodesBefore();
        lostWithoutMovesAlone();
        depthsAre0To7();
        depth7SeesSevenHalfMoves();
        depthIsOneLessForEachMove();
        turnedWorthsAreNoMates();
        turnedMatesAreAHalfMoveFurther();
        bestIsTheFirst();
        bestIsNoneWithoutMovesOrDepth();
        usedFor512Calls();
        Due.end();
    }

    /** "NODES 0, 1, .. (at most 400)" */
    private static void nodesAreAtMost400() {
        GraphSearch game = new GraphSearch(0);
        for (int i = 0; i < 400; i++) {
            Due.due("at most 400: node " + i, i, () -> game.node(3, false));
        }
        Due.due("at most 400: node 400", Due.STATE, () -> game.node(3, false));
        Due.due("at most 400: again", Due.STATE, () -> game.node(-500, true));
        Due.due("at most 400: nodes", 400, () -> game.look(0));
        Due.due("at most 400: of(399, 0)", 3, () -> game.of(399, 0));
        Due.due("at most 400: of(400, 0)", NONE, () -> game.of(400, 0));
        Due.due("at most 400: value(399, 7)", 0, () -> game.value(399, 7));
        Due.due("at most 400: value(400, 7)", Due.ARGUMENT, () -> game.value(400, 7));
    }

    /** "each with a WORTH -500 .. 500 for the side that is to move there" */
    private static void worthsAreFromLeastToMost() {
        int[] worths = {-500, -499, -1, 0, 1, 499, 500};
        for (int worth : worths) {
            GraphSearch game = new GraphSearch(0);
            Due.due("-500 .. 500: node(" + worth + ")", 0, () -> game.node(worth, false));
            game.move(0, 0);
            Due.due("-500 .. 500: the worth " + worth, worth, () -> game.of(0, 0));
            Due.due("-500 .. 500: the value " + worth, worth, () -> game.value(0, 0));
            Due.due("-500 .. 500: the other side's " + worth, -worth, () -> game.value(0, 1));
        }
    }

    /** "MOVES 0, 1, .. (at most 6) to nodes" */
    private static void movesAreAtMost6() {
        GraphSearch game = Games.with(1, 2, 3, 4, 5, 6, 7);
        for (int i = 0; i < 6; i++) {
            int to = 6 - i;
            Due.due("at most 6: move " + i, i, () -> game.move(0, to));
        }
        Due.due("at most 6: move 6", Due.STATE, () -> game.move(0, 1));
        Due.due("at most 6: moves", 6, () -> game.of(0, 2));
        for (int i = 0; i < 6; i++) {
            int w = 3 + i;
            Due.due("at most 6: of(0, " + w + ")", 6 - i, () -> game.of(0, w));
        }
        // The 6 are each node's own: the neighbours of a full node are as empty as before.
        Due.due("at most 6: the next node's first", 0, () -> game.move(1, 0));
        Due.due("at most 6: the next node's target", 0, () -> game.of(1, 3));
        Due.due("at most 6: the full node's last target", 1, () -> game.of(0, 8));
        Due.due("at most 6: after a drop", true, () -> game.drop(0));
        Due.due("at most 6: room for one", 5, () -> game.move(0, 0));
        Due.due("at most 6: full again", Due.STATE, () -> game.move(0, 0));
        lastOfSixCounts();
    }

    private static void lastOfSixCounts() {
        GraphSearch game = Games.with(0, 0);
        game.node(0, true);
        Games.addMoves(game, 0, 1, 1, 1, 1, 1, 2);
        Due.due("at most 6: the value of move 5", 999, () -> game.value(0, 1));
        Due.due("at most 6: the best is move 5", 5, () -> game.best(0, 1));
        Due.due("at most 6: the line by move 5", 2, () -> game.line(0, 1, 1));
        Due.due("at most 6: around by move 5", 3, () -> game.around(0, 1));
    }

    /** "several can lead to the same node" */
    private static void severalMovesToOneNode() {
        GraphSearch game = Games.with(10, -20);
        for (int i = 0; i < 6; i++) {
            Due.due("the same node: move " + i, i, () -> game.move(0, 1));
        }
        game.move(1, 1);
        Due.due("the same node: moves", 6, () -> game.of(0, 2));
        Due.due("the same node: moves of all", 7, () -> game.look(1));
        Due.due("the same node: value", 20, () -> game.value(0, 1));
        Due.due("the same node: best", 0, () -> game.best(0, 1));
        Due.due("the same node: ties", 6, () -> game.ties(0, 1));
        Due.due("the same node: around", 2, () -> game.around(0, 7));
        Due.due("the same node: a drop takes one", true, () -> game.drop(0));
        Due.due("the same node: ties after a drop", 5, () -> game.ties(0, 1));
    }

    /** "also back to nodes before it" */
    private static void movesBackToNodesBefore() {
        GraphSearch game = Games.with(10, 20, 30);
        Due.due("back: forth", 0, () -> game.move(0, 1));
        Due.due("back: forth", 0, () -> game.move(1, 2));
        Due.due("back: to the start", 0, () -> game.move(2, 0));
        int[] values = {10, -20, 30, -10, 20, -30, 10, -20};
        for (int depth = 0; depth <= 7; depth++) {
            int asked = depth;
            Due.due("back: value(0, " + depth + ")", values[depth], () -> game.value(0, asked));
            Due.due("back: line(0, 7, " + depth + ")", asked % 3, () -> game.line(0, 7, asked));
        }
        Due.due("back: to itself", 1, () -> game.move(0, 0));
        Due.due("back: value with a move to itself", -10, () -> game.value(0, 1));
        Due.due("back: best with a move to itself", 1, () -> game.best(0, 1));
    }

    /** "A node without moves is LOST or not, as it was told." */
    private static void lostWithoutMovesAlone() {
        GraphSearch game = new GraphSearch(0);
        game.node(40, true);
        game.node(50, false);
        for (int depth = 0; depth <= 7; depth++) {
            int asked = depth;
            Due.due("LOST: value(0, " + depth + ")", -1000, () -> game.value(0, asked));
            Due.due("LOST or not: value(1, " + depth + ")", 0, () -> game.value(1, asked));
        }
        game.move(0, 1);
        Due.due("LOST: not with a move, depth 0", 40, () -> game.value(0, 0));
        Due.due("LOST: not with a move, depth 7", 0, () -> game.value(0, 7));
        game.drop(0);
        Due.due("LOST: again without it", -1000, () -> game.value(0, 7));
    }

    /** "a depth d, 0 .. 7" */
    private static void depthsAre0To7() {
        GraphSearch game = Games.with(10, 20);
        Games.addMoves(game, 0, 1);
        Games.addMoves(game, 1, 0);
        int[] values = {10, -20, 10, -20, 10, -20, 10, -20};
        for (int depth = 0; depth <= 7; depth++) {
            int asked = depth;
            Due.due("0 .. 7: value(0, " + depth + ")", values[depth], () -> game.value(0, asked));
            Due.due("0 .. 7: best(0, " + depth + ")", depth == 0 ? NONE : 0, () -> game.best(0, asked));
            Due.due("0 .. 7: reaches(0, " + depth + ")", true, () -> game.reaches(0, asked, values[asked]));
            Due.due("0 .. 7: line(0, " + depth + ")", asked % 2, () -> game.line(0, asked, asked));
            Due.due("0 .. 7: ties(0, " + depth + ")", depth == 0 ? 0 : 1, () -> game.ties(0, asked));
            Due.due("0 .. 7: settled(0, " + depth + ")", asked, () -> game.settled(0, asked));
            Due.due("0 .. 7: around(0, " + depth + ")", depth == 0 ? 1 : 2, () -> game.around(0, asked));
        }
        for (int depth : NO_DEPTHS) {
            String asked = "(0, " + depth + ")";
            Due.due("0 .. 7: value" + asked, Due.ARGUMENT, () -> game.value(0, depth));
            Due.due("0 .. 7: best" + asked, Due.ARGUMENT, () -> game.best(0, depth));
            Due.due("0 .. 7: reaches" + asked, Due.ARGUMENT, () -> game.reaches(0, depth, 0));
            Due.due("0 .. 7: line" + asked, Due.ARGUMENT, () -> game.line(0, depth, 0));
            Due.due("0 .. 7: ties" + asked, Due.ARGUMENT, () -> game.ties(0, depth));
            Due.due("0 .. 7: settled" + asked, Due.ARGUMENT, () -> game.settled(0, depth));
            Due.due("0 .. 7: around" + asked, Due.ARGUMENT, () -> game.around(0, depth));
        }
    }

    /** "a depth d, 0 .. 7": a mate in 7 half moves is just inside the greatest depth, one in 8 just outside. */
    private static void depth7SeesSevenHalfMoves() {
        GraphSearch game = Games.rowToLost(8);
        Due.due("depth 7: a mate in 7", 993, () -> game.value(1, 7));
        Due.due("depth 6: a mate in 7", 107, () -> game.value(1, 6));
        Due.due("depth 7: a mate in 8", -107, () -> game.value(0, 7));
    }

    /** "the greatest of B(V(y, d - 1))": each depth reads the one below it, and at depth 0 the worths count. */
    private static void depthIsOneLessForEachMove() {
        GraphSearch game = Games.rowToLost(8);
        int[] values = {100, -101, 102, -103, 104, -105, 106, -107};
        for (int depth = 0; depth <= 7; depth++) {
            int asked = depth;
            Due.due("d - 1: value(0, " + depth + ")", values[depth], () -> game.value(0, asked));
        }
        // The greatest may stand first, between others, or last.
        GraphSearch greatest = Games.with(0, 5, -8, 7, 9);
        Games.addMoves(greatest, 1, 4);
        Games.addMoves(greatest, 2, 4);
        Games.addMoves(greatest, 3, 4);
        Games.addMoves(greatest, 0, 1, 3, 2);
        Due.due("the greatest is last", 8, () -> greatest.value(0, 1));
        greatest.move(0, 1);
        Due.due("the greatest is between", 8, () -> greatest.value(0, 1));
        greatest.change(1, -9, false);
        Due.due("the greatest is first", 9, () -> greatest.value(0, 1));
        greatest.change(1, 500, false);
        greatest.change(2, 500, false);
        greatest.change(3, 499, false);
        Due.due("the greatest is below 0", -499, () -> greatest.value(0, 1));
    }

    /**
     * "B(v) is -v": no value lies between a worth (500 at most) and the furthest mate that can be seen (993), so
     * these two, and not 900 and 901, are the nearest to B's bounds that a game can have.
     */
    private static void turnedWorthsAreNoMates() {
        for (int worth : new int[] {-500, -499, -1, 0, 1, 499, 500}) {
            GraphSearch game = Games.with(7, worth);
            Games.addMoves(game, 0, 1);
            Games.addMoves(game, 1, 1);
            Due.due("B(" + worth + ")", -worth, () -> game.value(0, 1));
            Due.due("B(B(" + worth + "))", worth, () -> game.value(0, 2));
        }
    }

    /** "-v + 1 if that is below -900, and -v - 1 if it is above 900" */
    private static void turnedMatesAreAHalfMoveFurther() {
        GraphSearch game = Games.rowToLost(7);
        int[] values = {993, -994, 995, -996, 997, -998, 999, -1000};
        for (int node = 0; node <= 7; node++) {
            int asked = node;
            Due.due("B: " + (7 - node) + " before the end", values[node], () -> game.value(asked, 7));
        }
        // A node that is not LOST ends the play too, and is no mate however far away.
        game.change(7, 0, false);
        for (int node = 0; node <= 7; node++) {
            int asked = node;
            Due.due("B: " + (7 - node) + " before a draw", 0, () -> game.value(asked, 7));
        }
    }

    /** "the first one (least number) whose B(V(y, d - 1)) is V(x, d)" */
    private static void bestIsTheFirst() {
        GraphSearch game = Games.with(0, 4, -4, -4);
        for (int from = 1; from <= 3; from++) {
            Games.addMoves(game, from, from);
        }
        Games.addMoves(game, 0, 1, 3, 2, 3, 2, 1);
        Due.due("the first: of moves 1 to 4", 1, () -> game.best(0, 1));
        Due.due("the first: of moves 0 and 5", 0, () -> game.best(0, 2));
        Due.due("the first: its node", 3, () -> game.line(0, 1, 1));
        game.change(2, -5, false);
        Due.due("the first: of moves 2 and 4", 2, () -> game.best(0, 1));
        game.change(1, -6, false);
        game.drop(0);
        Due.due("the first: of move 0 alone", 0, () -> game.best(0, 1));
    }

    /** "there is none if x has no moves or d is 0" */
    private static void bestIsNoneWithoutMovesOrDepth() {
        GraphSearch game = Games.rowToLost(1);
        game.node(0, false);
        Due.due("none: depth 0", NONE, () -> game.best(0, 0));
        Due.due("there is one: depth 1", 0, () -> game.best(0, 1));
        for (int depth = 0; depth <= 7; depth++) {
            int asked = depth;
            Due.due("none: LOST, depth " + depth, NONE, () -> game.best(1, asked));
            Due.due("none: not LOST, depth " + depth, NONE, () -> game.best(2, asked));
        }
        game.drop(0);
        Due.due("none: when the only move went", NONE, () -> game.best(0, 1));
    }

    /** "An object is used for at most 512 calls after it has been made": the last of them is answered as all are. */
    private static void usedFor512Calls() {
        GraphSearch game = Games.full();
        int calls = 400;
        for (int node = 399; node > 396; node--) {
            for (int move = 0; move < 6; move++) {
                int from = node;
                int due = move;
                Due.due("512: call " + calls, due, () -> game.move(from, from - 1));
                calls++;
            }
        }
        for (; calls < 512; calls += 2) {
            boolean lost = calls % 4 == 0;
            Due.due("512: call " + calls, true, () -> game.change(396, 11, lost));
            Due.due("512: call " + (calls + 1), lost ? 997 : 0, () -> game.value(399, 7));
        }
    }
}
