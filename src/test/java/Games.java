/** Games that several tests begin with. */
final class Games {
    private Games() {
    }

    /** A game with a node for each worth, none of them LOST. */
    static GraphSearch with(int... worths) {
        GraphSearch game = new GraphSearch(0);
        for (int worth : worths) {
            game.node(worth, false);
        }
        return game;
    }

    static void addMoves(GraphSearch game, int from, int... targets) {
        for (int to : targets) {
            game.move(from, to);
        }
    }

    /** Nodes 0 .. length in a row, the last one LOST, each with a move to the next; node i is worth 100 + i. */
    static GraphSearch rowToLost(int length) {
        GraphSearch game = new GraphSearch(0);
        for (int i = 0; i <= length; i++) {
            game.node(100 + i, i == length);
        }
        for (int i = 0; i < length; i++) {
            game.move(i, i + 1);
        }
        return game;
    }

    /** 400 nodes, node i worth i - 200, LOST where i is even: 112 of an object's 512 calls are left. */
    static GraphSearch full() {
        GraphSearch game = new GraphSearch(0);
        for (int i = 0; i < 400; i++) {
            game.node(i - 200, i % 2 == 0);
        }
        return game;
    }
}
