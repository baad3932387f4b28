/**
 * The best play of a game that is told as a graph of nodes and moves.
 *
 * The values of all nodes are kept in a table with a row for each depth. A row is found from the row
 * before it, so a search goes deeper and deeper, and no row is found twice while the game stays as it is.
 */
public final class GraphSearch {
    public static final int NONE = -1;

    private static final int MOST_NODES = 400;
    private static final int MOST_MOVES = 6;
    private static final int MOST_WORTH = 500;
    private static final int MOST_DEPTH = 7;

    private static final int VALUE_IF_LOST = -1000;
    private static final int VALUE_IF_DRAWN = 0;
    private static final int MATE_BEYOND = 900;
    /** What a move to a lost node is worth: no value is below VALUE_IF_LOST, so no move is worth more. */
    private static final int GREATEST_OF_ALL = 999;

    private static final int OF_WORTH = 0;
    private static final int OF_LOST = 1;
    private static final int OF_MOVES = 2;
    private static final int OF_FIRST_TARGET = 3;

    private static final int LOOK_NODES = 0;
    private static final int LOOK_MOVES = 1;

    private final int[] worths = new int[MOST_NODES];
    private final boolean[] losts = new boolean[MOST_NODES];
    private final int[] moveCounts = new int[MOST_NODES];
    private final int[] targets = new int[MOST_NODES * MOST_MOVES];
    private int nodeCount = 0;
    private int allMoves = 0;

    private final int[][] table = new int[MOST_DEPTH + 1][MOST_NODES];
    /** How many rows of the table, from depth 0 on, hold for the game as it is now. */
    private int rowsFound = 0;

    private final int[] met = new int[MOST_NODES];
    private final boolean[] isMet = new boolean[MOST_NODES];
    private int metCount = 0;

    /** k may change nothing of what is told, and the search has no use for it. */
    public GraphSearch(int k) {
    }

    public int node(int worth, boolean lost) throws IllegalArgumentException, IllegalStateException {
        if (!isWorth(worth)) {
            throw new IllegalArgumentException("the worth is not -500 .. 500");
        }
        if (nodeCount >= MOST_NODES) {
            throw new IllegalStateException("there are 400 nodes");
        }
        int node = nodeCount;
        worths[node] = worth;
        losts[node] = lost;
        nodeCount++;
        forgetTable();
        return node;
    }

    public int move(int from, int to) throws IllegalArgumentException, IllegalStateException {
        if (!isNode(from) || !isNode(to)) {
            throw new IllegalArgumentException("there are no such nodes");
        }
        if (moveCounts[from] >= MOST_MOVES) {
            throw new IllegalStateException("the node has 6 moves");
        }
        int move = moveCounts[from];
        targets[place(from, move)] = to;
        moveCounts[from]++;
        allMoves++;
        forgetTable();
        return move;
    }

    public boolean drop(int node) {
        if (!isNode(node) || moveCounts[node] == 0) {
            return false;
        }
        moveCounts[node]--;
        allMoves--;
        forgetTable();
        return true;
    }

    public boolean change(int node, int worth, boolean lost) {
        if (!isNode(node) || !isWorth(worth)) {
            return false;
        }
        worths[node] = worth;
        losts[node] = lost;
        forgetTable();
        return true;
    }

    public int value(int node, int depth) throws IllegalArgumentException {
        refuseWrongQuestion(node, depth);
        deepenTo(depth);
        return table[depth][node];
    }

    public int best(int node, int depth) throws IllegalArgumentException {
        refuseWrongQuestion(node, depth);
        deepenTo(depth);
        return bestMove(node, depth);
    }

    public boolean reaches(int node, int depth, int v) throws IllegalArgumentException {
        refuseWrongQuestion(node, depth);
        deepenTo(depth);
        return table[depth][node] >= v;
    }

    public int line(int node, int depth, int i) throws IllegalArgumentException {
        refuseWrongQuestion(node, depth);
        if (i < 0 || i > depth) {
            return NONE;
        }
        deepenTo(depth);
        int at = node;
        for (int step = 0; step < i; step++) {
            int move = bestMove(at, depth - step);
            if (move == NONE) {
                return NONE;
            }
            at = targets[place(at, move)];
        }
        return at;
    }

    public int ties(int node, int depth) throws IllegalArgumentException {
        refuseWrongQuestion(node, depth);
        if (depth == 0) {
            return 0;
        }
        deepenTo(depth);
        int count = 0;
        for (int move = 0; move < moveCounts[node]; move++) {
            if (moveValue(node, move, depth) == table[depth][node]) {
                count++;
            }
        }
        return count;
    }

    public int settled(int node, int depth) throws IllegalArgumentException {
        refuseWrongQuestion(node, depth);
        deepenTo(depth);
        int least = depth;
        while (least > 0 && table[least - 1][node] == table[depth][node]) {
            least--;
        }
        return least;
    }

    public int of(int node, int w) {
        if (!isNode(node)) {
            return NONE;
        }
        switch (w) {
            case OF_WORTH:
                return worths[node];
            case OF_LOST:
                return losts[node] ? 1 : 0;
            case OF_MOVES:
                return moveCounts[node];
            default:
                return targetOrNone(node, w);
        }
    }

    public int around(int node, int depth) throws IllegalArgumentException {
        refuseWrongQuestion(node, depth);
        forgetMet();
        meet(node);
        int next = 0;
        for (int step = 0; step < depth; step++) {
            int end = metCount;
            for (; next < end; next++) {
                meetTargets(met[next]);
            }
        }
        return metCount;
    }

    public int look(int which) {
        switch (which) {
            case LOOK_NODES:
                return nodeCount;
            case LOOK_MOVES:
                return allMoves;
            default:
                return NONE;
        }
    }

    private static boolean isWorth(int worth) {
        return worth >= -MOST_WORTH && worth <= MOST_WORTH;
    }

    private boolean isNode(int node) {
        return node >= 0 && node < nodeCount;
    }

    private void refuseWrongQuestion(int node, int depth) {
        if (!isNode(node) || depth < 0 || depth > MOST_DEPTH) {
            throw new IllegalArgumentException("there is no such node, or the depth is not 0 .. 7");
        }
    }

    private static int place(int node, int move) {
        return node * MOST_MOVES + move;
    }

    private int targetOrNone(int node, int w) {
        // w is compared before anything is taken from it: the least int less 3 would wrap around.
        if (w < OF_FIRST_TARGET || w >= OF_FIRST_TARGET + moveCounts[node]) {
            return NONE;
        }
        return targets[place(node, w - OF_FIRST_TARGET)];
    }

    private void forgetTable() {
        rowsFound = 0;
    }

    private void deepenTo(int depth) {
        for (int next = rowsFound; next <= depth; next++) {
            findRow(next);
            rowsFound = next + 1;
        }
    }

    private void findRow(int depth) {
        for (int node = 0; node < nodeCount; node++) {
            table[depth][node] = findValue(node, depth);
        }
    }

    /** Reads the table's row before this depth, which must hold. */
    private int findValue(int node, int depth) {
        if (moveCounts[node] == 0) {
            return losts[node] ? VALUE_IF_LOST : VALUE_IF_DRAWN;
        }
        if (depth == 0) {
            return worths[node];
        }
        int greatest = moveValue(node, 0, depth);
        // The moves behind one that wins at once can not matter.
        for (int move = 1; move < moveCounts[node] && greatest < GREATEST_OF_ALL; move++) {
            greatest = Math.max(greatest, moveValue(node, move, depth));
        }
        return greatest;
    }

    /** What a move is worth to the side that makes it, at a depth of 1 or more. */
    private int moveValue(int node, int move, int depth) {
        return halfMoveBack(table[depth - 1][targets[place(node, move)]]);
    }

    /** The document's B. */
    private static int halfMoveBack(int v) {
        int turned = -v;
        if (turned < -MATE_BEYOND) {
            return turned + 1;
        }
        if (turned > MATE_BEYOND) {
            return turned - 1;
        }
        return turned;
    }

    /** Reads the table's row of this depth, which must hold. */
    private int bestMove(int node, int depth) {
        if (depth == 0) {
            return NONE;
        }
        for (int move = 0; move < moveCounts[node]; move++) {
            if (moveValue(node, move, depth) == table[depth][node]) {
                return move;
            }
        }
        return NONE;
    }

    private void forgetMet() {
        for (int i = 0; i < metCount; i++) {
            isMet[met[i]] = false;
        }
        metCount = 0;
    }

    private void meet(int node) {
        if (!isMet[node]) {
            isMet[node] = true;
            met[metCount] = node;
            metCount++;
        }
    }

    private void meetTargets(int node) {
        for (int move = 0; move < moveCounts[node]; move++) {
            meet(targets[place(node, move)]);
        }
    }
}
