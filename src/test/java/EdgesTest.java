import java.util.List;

/** Each sentence of promises 1 to 14 that names an edge has a test of its own here, which quotes it. */
public final class EdgesTest {
    private static final int NONE = GraphSearch.NONE;
    private static final int LEAST = Integer.MIN_VALUE;
    private static final int MOST = Integer.MAX_VALUE;
    private static final int[] NO_WORTHS = {-501, 501, -502, 502, 1000, -1000, LEAST, LEAST + 1, MOST};

    public static void main(String[] args) {
        aNewObjectHasNoNodes();
        kChangesNothing();
        nodeOfAWrongWorth();
        nodeWhenThereAre400();
        moveOfNoSuchNodes();
        moveWhenItHas6();
        dropOfNoSuchNode();
        dropWhenItHasNone();
        changeOfNoSuchNode();
        changeToAWrongWorth();
        questionsOfNoSuchNode();
        questionsOfAWrongDepth();
        bestIsNone();
        reachesAnyInt();
        lineBeginsAtItsNode();
        lineGetsShallower();
        lineIsNone();
        tiesAre0();
        tiesAreAtMostAllMoves();
        settledIsTheLeastDepth();
        settledIsFromWhichOn();
        ofMovesAndNoMoves();
        ofNoSuchNode();
        ofNoSuchW();
        aroundItselfIsOne();
        aroundByAtMostSoManyMoves();
        aroundTheFullGame();
        lookAtTheEmptyAndTheFullGame();
        lookAtAnyOther();
        Due.end();
    }

    /** Promise 1: "No nodes.": every call of the face finds the game empty. */
    private static void aNewObjectHasNoNodes() {
        GraphSearch game = new GraphSearch(0);
        Due.due("1: look(0)", 0, () -> game.look(0));
        Due.due("1: look(1)", 0, () -> game.look(1));
        for (int node : new int[] {0, 1, -1, 399, LEAST, MOST}) {
            String asked = "(" + node + ")";
            Due.due("1: move from " + asked, Due.ARGUMENT, () -> game.move(node, node));
            Due.due("1: drop" + asked, false, () -> game.drop(node));
            Due.due("1: change" + asked, false, () -> game.change(node, 0, true));
            Due.due("1: of" + asked, NONE, () -> game.of(node, 0));
            Due.due("1: its moves" + asked, NONE, () -> game.of(node, 2));
            refused("1", game, node, 0);
            refused("1", game, node, 7);
        }
        Due.due("1: look(0) at the end", 0, () -> game.look(0));
        Due.due("1: the first node", 0, () -> game.node(0, false));
    }

    /** Promise 1: "k (0 .. 10; others count as the nearest of these) changes nothing of what is told." */
    private static void kChangesNothing() {
        Shown shown = new Shown(0, 1, 2, 3, 4);
        List<Object> want = shown.askAll(someGame(0));
        for (int k : new int[] {LEAST, LEAST + 1, -11, -1, 1, 2, 3, 4, 5, 6, 7, 8, 9, 10, 11, 400, MOST}) {
            shown.due("1: k " + k, want, someGame(k));
        }
        // The answers that all of them are compared with are right themselves.
        Due.due("1: value", 999, () -> someGame(0).value(0, 7));
        Due.due("1: value", -998, () -> someGame(10).value(1, 7));
        Due.due("1: nodes", 4, () -> someGame(11).look(0));
    }

    private static GraphSearch someGame(int k) {
        GraphSearch game = new GraphSearch(k);
        game.node(11, false);
        game.node(-500, false);
        game.node(500, true);
        game.node(33, true);
        Games.addMoves(game, 0, 1, 3, 2);
        Games.addMoves(game, 1, 0);
        Games.addMoves(game, 3, 1, 0, 3);
        return game;
    }

    /** Promise 2: "IllegalArgumentException if worth is not -500 .. 500" */
    private static void nodeOfAWrongWorth() {
        GraphSearch game = new GraphSearch(0);
        for (int worth : NO_WORTHS) {
            Due.due("2: node(" + worth + ", false)", Due.ARGUMENT, () -> game.node(worth, false));
            Due.due("2: node(" + worth + ", true)", Due.ARGUMENT, () -> game.node(worth, true));
        }
        Due.due("2: nodes after refusals", 0, () -> game.look(0));
        Due.due("2: node(-500)", 0, () -> game.node(-500, true));
        Due.due("2: node(500)", 1, () -> game.node(500, false));
        Due.due("2: of(0, 0)", -500, () -> game.of(0, 0));
        Due.due("2: of(1, 0)", 500, () -> game.of(1, 0));
    }

    /** Promise 2: "IllegalStateException if there are 400." */
    private static void nodeWhenThereAre400() {
        GraphSearch game = Games.full();
        for (int worth : new int[] {-500, 0, 500}) {
            Due.due("2: node " + worth + " when full", Due.STATE, () -> game.node(worth, true));
        }
        // Nothing makes room: a node never goes.
        Due.due("2: a move of the last node", 0, () -> game.move(399, 0));
        Due.due("2: and its drop", true, () -> game.drop(399));
        Due.due("2: still full", Due.STATE, () -> game.node(1, false));
        Due.due("2: nodes when full", 400, () -> game.look(0));
        Due.due("2: worth of the first", -200, () -> game.of(0, 0));
        Due.due("2: worth of the last", 199, () -> game.of(399, 0));
        Due.due("2: the last is not LOST", 0, () -> game.of(399, 1));
        Due.due("2: value of the last but one", -1000, () -> game.value(398, 7));
    }

    /** Promise 3: "IllegalArgumentException if there are no such nodes" */
    private static void moveOfNoSuchNodes() {
        GraphSearch game = Games.with(1, 2);
        for (int wrong : new int[] {2, 3, -1, -2, 399, 400, LEAST, MOST}) {
            Due.due("3: move(0, " + wrong + ")", Due.ARGUMENT, () -> game.move(0, wrong));
            Due.due("3: move(" + wrong + ", 0)", Due.ARGUMENT, () -> game.move(wrong, 0));
            Due.due("3: move(" + wrong + ", same)", Due.ARGUMENT, () -> game.move(wrong, wrong));
        }
        Due.due("3: moves after refusals", 0, () -> game.look(1));
        Due.due("3: move(0, 1)", 0, () -> game.move(0, 1));
        Due.due("3: move(1, 0)", 0, () -> game.move(1, 0));
        Due.due("3: move(1, 1)", 1, () -> game.move(1, 1));
        game.node(3, false);
        Due.due("3: move(0, 2), now a node", 1, () -> game.move(0, 2));
        GraphSearch full = Games.full();
        Due.due("3: move(399, 0)", 0, () -> full.move(399, 0));
        Due.due("3: move(0, 399)", 0, () -> full.move(0, 399));
        Due.due("3: move(400, 0)", Due.ARGUMENT, () -> full.move(400, 0));
        Due.due("3: move(0, 400)", Due.ARGUMENT, () -> full.move(0, 400));
    }

    /** Promise 3: "IllegalStateException if it has 6." */
    private static void moveWhenItHas6() {
        GraphSearch game = Games.full();
        for (int from : new int[] {0, 1, 399}) {
            for (int i = 0; i < 6; i++) {
                Due.due("3: move " + i + " of " + from, i, () -> game.move(from, 2));
            }
            Due.due("3: move 6 of " + from, Due.STATE, () -> game.move(from, 2));
            Due.due("3: move 6 to itself", Due.STATE, () -> game.move(from, from));
            Due.due("3: moves of " + from, 6, () -> game.of(from, 2));
        }
        // It is the node that a move goes from which may have 6, not the one that it leads to.
        Due.due("3: a move to a full node", 0, () -> game.move(2, 0));
        Due.due("3: moves of all", 19, () -> game.look(1));
    }

    /** Promise 4: "false if there is no such node" */
    private static void dropOfNoSuchNode() {
        GraphSearch game = Games.rowToLost(2);
        for (int wrong : new int[] {3, 4, -1, 399, 400, LEAST, MOST}) {
            Due.due("4: drop(" + wrong + ")", false, () -> game.drop(wrong));
        }
        Due.due("4: moves after refusals", 2, () -> game.look(1));
        Due.due("4: drop(0)", true, () -> game.drop(0));
        GraphSearch full = Games.full();
        Due.due("4: drop(400)", false, () -> full.drop(400));
        full.move(399, 0);
        Due.due("4: drop(399)", true, () -> full.drop(399));
    }

    /** Promise 4: "or it has none": a full node loses its six moves, the latest first, and no seventh. */
    private static void dropWhenItHasNone() {
        GraphSearch game = Games.with(1, 2, 3, 4, 5, 6, 7);
        Games.addMoves(game, 0, 1, 2, 3, 4, 5, 6);
        Games.addMoves(game, 1, 0);
        for (int left = 5; left >= 0; left--) {
            int moves = left;
            Due.due("4: drop, " + left + " left", true, () -> game.drop(0));
            Due.due("4: moves of 0", moves, () -> game.of(0, 2));
            Due.due("4: the latest went", NONE, () -> game.of(0, 3 + moves));
            for (int i = 0; i < left; i++) {
                int stays = i;
                Due.due("4: move " + i + " stays", stays + 1, () -> game.of(0, 3 + stays));
            }
            Due.due("4: moves of all", moves + 1, () -> game.look(1));
        }
        Due.due("4: drop, when it has none", false, () -> game.drop(0));
        Due.due("4: drop of one that never had any", false, () -> game.drop(6));
        Due.due("4: moves of 0 at the end", 0, () -> game.of(0, 2));
        Due.due("4: moves of all at the end", 1, () -> game.look(1));
        Due.due("4: the next is move 0", 0, () -> game.move(0, 6));
    }

    /** Promise 5: "false if there is no such node" */
    private static void changeOfNoSuchNode() {
        GraphSearch game = Games.with(1, 2);
        for (int wrong : new int[] {2, 3, -1, 399, 400, LEAST, MOST}) {
            Due.due("5: change(" + wrong + ")", false, () -> game.change(wrong, 0, true));
        }
        game.node(3, false);
        Due.due("5: node 2 is as it was told", 3, () -> game.of(2, 0));
        Due.due("5: node 2 is not LOST", 0, () -> game.of(2, 1));
        Due.due("5: change(2), now a node", true, () -> game.change(2, -3, true));
        Due.due("5: of(2, 0)", -3, () -> game.of(2, 0));
        GraphSearch full = Games.full();
        Due.due("5: change(399)", true, () -> full.change(399, 7, true));
        Due.due("5: change(400)", false, () -> full.change(400, 7, true));
        Due.due("5: value(399, 0)", -1000, () -> full.value(399, 0));
    }

    /** Promise 5: "or the worth is not as said." */
    private static void changeToAWrongWorth() {
        GraphSearch game = Games.with(1, 2);
        for (int worth : NO_WORTHS) {
            Due.due("5: change(0, " + worth + ")", false, () -> game.change(0, worth, true));
            Due.due("5: the worth after it", 1, () -> game.of(0, 0));
            Due.due("5: LOST after it", 0, () -> game.of(0, 1));
            Due.due("5: the value after it", 0, () -> game.value(0, 7));
        }
        for (int worth : new int[] {-500, -499, -1, 0, 499, 500}) {
            Due.due("5: change(0, " + worth + ")", true, () -> game.change(0, worth, true));
            Due.due("5: the worth after it", worth, () -> game.of(0, 0));
            Due.due("5: LOST after it", 1, () -> game.of(0, 1));
        }
        Due.due("5: the other node's worth", 2, () -> game.of(1, 0));
        Due.due("5: LOST without moves", -1000, () -> game.value(0, 0));
        game.move(0, 1);
        Due.due("5: its worth with moves", 500, () -> game.value(0, 0));
    }

    private static void refused(String promise, GraphSearch game, int node, int depth) {
        String asked = promise + ": (" + node + ", " + depth + ") of ";
        Due.due(asked + "value", Due.ARGUMENT, () -> game.value(node, depth));
        Due.due(asked + "best", Due.ARGUMENT, () -> game.best(node, depth));
        Due.due(asked + "reaches", Due.ARGUMENT, () -> game.reaches(node, depth, LEAST));
        Due.due(asked + "line", Due.ARGUMENT, () -> game.line(node, depth, 0));
        Due.due(asked + "line, i too", Due.ARGUMENT, () -> game.line(node, depth, -1));
        Due.due(asked + "ties", Due.ARGUMENT, () -> game.ties(node, depth));
        Due.due(asked + "settled", Due.ARGUMENT, () -> game.settled(node, depth));
        Due.due(asked + "around", Due.ARGUMENT, () -> game.around(node, depth));
    }

    private static void answered(String promise, GraphSearch game, int node, int depth) {
        String asked = promise + ": (" + node + ", " + depth + ") of ";
        Due.due(asked + "value", 0, () -> game.value(node, depth));
        Due.due(asked + "best", NONE, () -> game.best(node, depth));
        Due.due(asked + "reaches", true, () -> game.reaches(node, depth, LEAST));
        Due.due(asked + "line", node, () -> game.line(node, depth, 0));
        Due.due(asked + "line of i -1", NONE, () -> game.line(node, depth, -1));
        Due.due(asked + "ties", 0, () -> game.ties(node, depth));
        Due.due(asked + "settled", 0, () -> game.settled(node, depth));
        Due.due(asked + "around", 1, () -> game.around(node, depth));
    }

    /** Promise 6: "IllegalArgumentException if there is no such node" */
    private static void questionsOfNoSuchNode() {
        GraphSearch game = Games.with(5, 6);
        answered("6", game, 0, 7);
        answered("6", game, 1, 7);
        for (int wrong : new int[] {2, 3, -1, -2, 399, 400, LEAST, MOST}) {
            refused("6", game, wrong, 0);
            refused("6", game, wrong, 7);
        }
        game.node(7, false);
        answered("6", game, 2, 7);
        refused("6", game, 3, 7);
        GraphSearch full = Games.full();
        answered("6", full, 399, 7);
        refused("6", full, 400, 7);
        refused("6", full, 401, 0);
    }

    /** Promise 6: "or depth is not 0 .. 7 (as for all that follow)." */
    private static void questionsOfAWrongDepth() {
        GraphSearch game = Games.with(5);
        answered("6", game, 0, 0);
        answered("6", game, 0, 7);
        for (int wrong : new int[] {-1, 8, 9, -2, LEAST, LEAST + 7, MOST}) {
            refused("6", game, 0, wrong);
            refused("6", game, 1, wrong);
        }
        answered("6", game, 0, 6);
    }

    /** Promise 7: "NONE if there is none." */
    private static void bestIsNone() {
        GraphSearch game = Games.rowToLost(1);
        game.node(0, false);
        Games.addMoves(game, 0, 2, 1, 0, 2, 2);
        Due.due("7: six moves at depth 0", NONE, () -> game.best(0, 0));
        Due.due("7: six moves at depth 1", 0, () -> game.best(0, 1));
        Due.due("7: LOST", NONE, () -> game.best(1, 7));
        Due.due("7: neither", NONE, () -> game.best(2, 7));
        game.move(2, 0);
        Due.due("7: with a move", 0, () -> game.best(2, 7));
        game.drop(2);
        Due.due("7: without it", NONE, () -> game.best(2, 7));
    }

    /** Promise 8: "Whether the VALUE is at least v.": v is any int. */
    private static void reachesAnyInt() {
        GraphSearch game = Games.rowToLost(2);
        game.node(500, false);
        game.node(-500, false);
        Games.addMoves(game, 3, 3);
        Games.addMoves(game, 4, 4);
        int[] values = {-998, 999, -1000, -500, 500};
        for (int node = 0; node < values.length; node++) {
            int asked = node;
            int value = values[node];
            String what = "8: value " + value + " reaches ";
            Due.due(what + "itself", true, () -> game.reaches(asked, 7, value));
            Due.due(what + "1 less", true, () -> game.reaches(asked, 7, value - 1));
            Due.due(what + "1 more", false, () -> game.reaches(asked, 7, value + 1));
            Due.due(what + "the least int", true, () -> game.reaches(asked, 7, LEAST));
            Due.due(what + "the least int but one", true, () -> game.reaches(asked, 7, LEAST + 1));
            Due.due(what + "the most int", false, () -> game.reaches(asked, 7, MOST));
            Due.due(what + "the most int but one", false, () -> game.reaches(asked, 7, MOST - 1));
        }
        Due.due("8: the depth counts", true, () -> game.reaches(3, 6, 500));
        Due.due("8: depth 0", true, () -> game.reaches(3, 0, 500));
        Due.due("8: depth 0, 1 more", false, () -> game.reaches(3, 0, 501));
    }

    /** Promise 9: "node 0 is the one that is asked for" */
    private static void lineBeginsAtItsNode() {
        GraphSearch game = Games.rowToLost(2);
        for (int depth = 0; depth <= 7; depth++) {
            for (int node = 0; node <= 2; node++) {
                int asked = node;
                int at = depth;
                Due.due("9: line(" + node + ", " + depth + ", 0)", asked, () -> game.line(asked, at, 0));
            }
        }
    }

    /** Promise 9: "where the BEST move leads to, at a depth that is 1 less each time" */
    private static void lineGetsShallower() {
        // Node 1's best move leads to 2 at odd depths and to 3 at even ones, so a node tells its depth.
        GraphSearch game = Games.with(0, 0, -50, 50);
        Games.addMoves(game, 0, 1);
        Games.addMoves(game, 1, 2, 3);
        Games.addMoves(game, 2, 2);
        Games.addMoves(game, 3, 3);
        for (int depth = 1; depth <= 7; depth++) {
            int asked = depth;
            int leadsTo = depth % 2 == 1 ? 2 : 3;
            Due.due("9: line(1, " + depth + ", 1)", leadsTo, () -> game.line(1, asked, 1));
        }
        for (int depth = 2; depth <= 7; depth++) {
            int asked = depth;
            int leadsTo = depth % 2 == 0 ? 2 : 3;
            Due.due("9: line(0, " + depth + ", 1)", 1, () -> game.line(0, asked, 1));
            Due.due("9: line(0, " + depth + ", 2)", leadsTo, () -> game.line(0, asked, 2));
            Due.due("9: its last node", leadsTo, () -> game.line(0, asked, asked));
        }
    }

    /** Promise 9: "NONE if there is none.": behind the depth, behind a node without moves, before node 0. */
    private static void lineIsNone() {
        GraphSearch ring = Games.with(1, 2);
        Games.addMoves(ring, 0, 1);
        Games.addMoves(ring, 1, 0);
        for (int depth = 0; depth <= 7; depth++) {
            int asked = depth;
            Due.due("9: the last, depth " + depth, asked % 2, () -> ring.line(0, asked, asked));
            Due.due("9: behind it, depth " + depth, NONE, () -> ring.line(0, asked, asked + 1));
            for (int i : new int[] {-1, -2, 9, 400, LEAST, LEAST + 1, MOST, MOST - 1}) {
                Due.due("9: line(0, " + depth + ", " + i + ")", NONE, () -> ring.line(0, asked, i));
            }
        }
        GraphSearch row = Games.rowToLost(2);
        Due.due("9: the node without moves", 2, () -> row.line(0, 7, 2));
        Due.due("9: behind it", NONE, () -> row.line(0, 7, 3));
        Due.due("9: far behind it", NONE, () -> row.line(0, 7, 7));
        Due.due("9: behind it at once", NONE, () -> row.line(2, 7, 1));
        Due.due("9: the depth's end before it", NONE, () -> row.line(0, 1, 2));
    }

    /** Promise 10: "0 if there is none." */
    private static void tiesAre0() {
        GraphSearch game = Games.rowToLost(1);
        game.node(0, false);
        Games.addMoves(game, 0, 1, 1);
        for (int depth = 0; depth <= 7; depth++) {
            int asked = depth;
            Due.due("10: with moves, depth " + depth, depth == 0 ? 0 : 3, () -> game.ties(0, asked));
            Due.due("10: LOST, depth " + depth, 0, () -> game.ties(1, asked));
            Due.due("10: neither, depth " + depth, 0, () -> game.ties(2, asked));
        }
    }

    /** Promise 10: "How many moves of a node have the same B(V(y, depth - 1)) as the BEST one": 1 .. 6. */
    private static void tiesAreAtMostAllMoves() {
        GraphSearch game = Games.with(0, 8, 9);
        Games.addMoves(game, 1, 1);
        Games.addMoves(game, 2, 2);
        for (int ties = 1; ties <= 6; ties++) {
            int moves = ties;
            game.move(0, 1);
            Due.due("10: all of " + ties, moves, () -> game.ties(0, 1));
        }
        for (int ties = 5; ties >= 0; ties--) {
            int alike = ties;
            game.drop(0);
            Due.due("10: " + ties + " of them are left", alike, () -> game.ties(0, 1));
        }
        Games.addMoves(game, 0, 2, 1, 2, 2, 1, 2);
        Due.due("10: not the first", 2, () -> game.ties(0, 1));
        Due.due("10: at the next depth", 4, () -> game.ties(0, 2));
        game.change(1, 9, false);
        Due.due("10: other nodes of the same worth", 6, () -> game.ties(0, 1));
    }

    /** Promise 11: "The least depth, up to the one that is told": 0 where all are the same, else up to depth. */
    private static void settledIsTheLeastDepth() {
        GraphSearch game = Games.rowToLost(7);
        game.node(0, false);
        game.move(8, 8);
        game.node(1, false);
        game.move(9, 9);
        for (int depth = 0; depth <= 7; depth++) {
            int asked = depth;
            Due.due("11: no moves, depth " + depth, 0, () -> game.settled(7, asked));
            Due.due("11: always the same, depth " + depth, 0, () -> game.settled(8, asked));
            Due.due("11: never the same, depth " + depth, asked, () -> game.settled(9, asked));
            // A mate in n half moves is found at depth n, and stays.
            for (int node = 0; node < 7; node++) {
                int from = node;
                int found = Math.min(7 - node, depth);
                Due.due("11: a mate in " + (7 - node) + ", depth " + depth, found, () -> game.settled(from, asked));
            }
        }
    }

    /** Promise 11: "from which on (up to it) the VALUE is the same" */
    private static void settledIsFromWhichOn() {
        // The values of node 0 at depths 0 .. 7 are 5, 5, 4, 5, 5, 5, 3, 5.
        GraphSearch game = Games.with(5, -5, 4, -5, 5, -5, 3, -5);
        for (int node = 0; node < 7; node++) {
            game.move(node, node + 1);
        }
        game.move(7, 7);
        int[] values = {5, 5, 4, 5, 5, 5, 3, 5};
        int[] settled = {0, 0, 2, 3, 3, 3, 6, 7};
        for (int depth = 0; depth <= 7; depth++) {
            int asked = depth;
            Due.due("11: value at " + depth, values[depth], () -> game.value(0, asked));
            Due.due("11: settled at " + depth, settled[depth], () -> game.settled(0, asked));
        }
    }

    /** Promise 12: "3 .. 8: where move 0 .. 5 leads to, NONE without it." */
    private static void ofMovesAndNoMoves() {
        GraphSearch game = Games.with(10, 11, 12, 13, 14, 15, 16);
        for (int moves = 0; moves <= 6; moves++) {
            int count = moves;
            Due.due("12: moves", count, () -> game.of(6, 2));
            for (int w = 3; w <= 8; w++) {
                int asked = w;
                int due = w - 3 < moves ? w - 3 : NONE;
                Due.due("12: of(6, " + w + ") with " + moves + " moves", due, () -> game.of(6, asked));
            }
            if (moves < 6) {
                game.move(6, moves);
            }
        }
        Due.due("12: the node before a full one", NONE, () -> game.of(5, 8));
        for (int moves = 5; moves >= 0; moves--) {
            int gone = moves;
            game.drop(6);
            Due.due("12: without move " + moves, NONE, () -> game.of(6, 3 + gone));
        }
    }

    /** Promise 12: "NONE if there is no such node" */
    private static void ofNoSuchNode() {
        GraphSearch game = Games.rowToLost(1);
        for (int wrong : new int[] {2, 3, -1, 399, 400, LEAST, MOST}) {
            for (int w = -1; w <= 9; w++) {
                int asked = w;
                Due.due("12: of(" + wrong + ", " + w + ")", NONE, () -> game.of(wrong, asked));
            }
        }
        GraphSearch full = Games.full();
        for (int w = 0; w <= 8; w++) {
            int asked = w;
            Due.due("12: of(400, " + w + ")", NONE, () -> full.of(400, asked));
        }
        Due.due("12: of(399, 0)", 199, () -> full.of(399, 0));
        Due.due("12: of(398, 1)", 1, () -> full.of(398, 1));
        Due.due("12: of(399, 1)", 0, () -> full.of(399, 1));
        Due.due("12: of(399, 2)", 0, () -> full.of(399, 2));
    }

    /** Promise 12: "or w.": w is any int. */
    private static void ofNoSuchW() {
        GraphSearch game = Games.with(100, 200, 300);
        for (int node = 0; node < 3; node++) {
            Games.addMoves(game, node, 0, 1, 2, 0, 1, 2);
        }
        for (int node = 0; node < 3; node++) {
            int asked = node;
            Due.due("12: the last w", 2, () -> game.of(asked, 8));
            for (int w : new int[] {-1, 9, -2, 10, 15, LEAST, LEAST + 2, LEAST + 3, LEAST + 8, MOST - 1, MOST}) {
                Due.due("12: of(" + node + ", " + w + ")", NONE, () -> game.of(asked, w));
            }
        }
    }

    /** Promise 13: "(itself is one)" */
    private static void aroundItselfIsOne() {
        GraphSearch game = Games.with(1, 2, 3);
        Games.addMoves(game, 1, 1);
        Games.addMoves(game, 2, 0, 1);
        for (int depth = 0; depth <= 7; depth++) {
            int asked = depth;
            Due.due("13: without moves, depth " + depth, 1, () -> game.around(0, asked));
            Due.due("13: a move to itself, depth " + depth, 1, () -> game.around(1, asked));
            Due.due("13: two others, depth " + depth, depth == 0 ? 1 : 3, () -> game.around(2, asked));
        }
    }

    /** Promise 13: "by at most so many moves, depth 0 .. 7": not by just so many, and not by one more. */
    private static void aroundByAtMostSoManyMoves() {
        GraphSearch row = Games.rowToLost(9);
        for (int depth = 0; depth <= 7; depth++) {
            int asked = depth;
            Due.due("13: a row, depth " + depth, asked + 1, () -> row.around(0, asked));
            Due.due("13: a row's last but two", Math.min(asked + 1, 3), () -> row.around(7, asked));
        }
        // A way back and a short cut: a node counts once, however and how often it is come to.
        Games.addMoves(row, 1, 0, 2);
        Games.addMoves(row, 0, 5);
        int[] counts = {1, 3, 5, 7, 9, 10, 10, 10};
        for (int depth = 0; depth <= 7; depth++) {
            int asked = depth;
            Due.due("13: a short cut, depth " + depth, counts[depth], () -> row.around(0, asked));
        }
    }

    /** Promise 13: in a game of 400 nodes, with six moves each as far as 512 calls reach. */
    private static void aroundTheFullGame() {
        GraphSearch game = Games.full();
        // Node 399 - n leads to the six nodes 399 - 6n - 1 .. 399 - 6n - 6.
        for (int n = 0; n < 15; n++) {
            for (int i = 1; i <= 6; i++) {
                game.move(399 - n, 399 - 6 * n - i);
            }
        }
        int[] counts = {1, 7, 43, 91, 91, 91, 91, 91};
        for (int depth = 0; depth <= 7; depth++) {
            int asked = depth;
            Due.due("13: a full tree, depth " + depth, counts[depth], () -> game.around(399, asked));
        }
        Due.due("13: from a leaf", 1, () -> game.around(0, 7));
        Due.due("13: again from the root", 91, () -> game.around(399, 7));
    }

    /** Promise 14: "which 0: nodes, 1: moves of all." */
    private static void lookAtTheEmptyAndTheFullGame() {
        GraphSearch game = new GraphSearch(0);
        Due.due("14: nodes of the empty game", 0, () -> game.look(0));
        Due.due("14: moves of the empty game", 0, () -> game.look(1));
        GraphSearch full = Games.full();
        Due.due("14: nodes of the full game", 400, () -> full.look(0));
        Due.due("14: moves of the full game", 0, () -> full.look(1));
        for (int i = 0; i < 6; i++) {
            full.move(0, 399);
            full.move(399, 0);
        }
        Due.due("14: moves of two full nodes", 12, () -> full.look(1));
        full.drop(0);
        Due.due("14: moves after a drop", 11, () -> full.look(1));
        full.change(0, 1, true);
        Due.due("14: moves after a change", 11, () -> full.look(1));
        Due.due("14: nodes at the end", 400, () -> full.look(0));
    }

    /** Promise 14: "NONE for any other which." */
    private static void lookAtAnyOther() {
        GraphSearch empty = new GraphSearch(0);
        GraphSearch game = Games.rowToLost(3);
        for (int which : new int[] {-1, 2, 3, 4, -2, 399, 400, LEAST, LEAST + 1, MOST, MOST - 1}) {
            Due.due("14: look(" + which + ") of none", NONE, () -> empty.look(which));
            Due.due("14: look(" + which + ")", NONE, () -> game.look(which));
        }
    }
}
