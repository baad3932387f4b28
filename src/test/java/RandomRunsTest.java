import java.util.ArrayList;
import java.util.List;
import java.util.Random;
import java.util.TreeSet;

/** Long runs of chosen calls, each answer compared with one that is found by the document's words alone. */
public final class RandomRunsTest {
    private static final int RUNS = 150;
    private static final int CALLS = 512;
    private static final int[] ODD = {Integer.MIN_VALUE, -501, -2, -1, 8, 9, 400, 501, 1000, Integer.MAX_VALUE};

    /** The document's words, without a table and without cutting anything off. */
    private static final class Model {
        private final List<Integer> worths = new ArrayList<>();
        private final List<Boolean> losts = new ArrayList<>();
        private final List<List<Integer>> moves = new ArrayList<>();

        private boolean has(int node) {
            return node >= 0 && node < worths.size();
        }

        private static boolean isWorth(int worth) {
            return Math.abs((long) worth) <= 500;
        }

        private static int b(int v) {
            return -v < -900 ? -v + 1 : -v > 900 ? -v - 1 : -v;
        }

        private int v(int x, int d) {
            if (moves.get(x).isEmpty()) {
                return losts.get(x) ? -1000 : 0;
            }
            if (d == 0) {
                return worths.get(x);
            }
            int greatest = Integer.MIN_VALUE;
            for (int y : moves.get(x)) {
                greatest = Math.max(greatest, b(v(y, d - 1)));
            }
            return greatest;
        }

        private int bestOf(int x, int d) {
            if (d > 0) {
                int value = v(x, d);
                for (int m = 0; m < moves.get(x).size(); m++) {
                    if (b(v(moves.get(x).get(m), d - 1)) == value) {
                        return m;
                    }
                }
            }
            return -1;
        }

        private void check(int node, int depth) {
            if (!has(node) || depth < 0 || depth > 7) {
                throw new IllegalArgumentException();
            }
        }

        private int node(int worth, boolean lost) {
            if (!isWorth(worth)) {
                throw new IllegalArgumentException();
            }
            if (worths.size() == 400) {
                throw new IllegalStateException();
            }
            worths.add(worth);
            losts.add(lost);
            moves.add(new ArrayList<>());
            return worths.size() - 1;
        }

        private int move(int from, int to) {
            if (!has(from) || !has(to)) {
                throw new IllegalArgumentException();
            }
            if (moves.get(from).size() == 6) {
                throw new IllegalStateException();
            }
            moves.get(from).add(to);
            return moves.get(from).size() - 1;
        }

        private boolean drop(int node) {
            if (!has(node) || moves.get(node).isEmpty()) {
                return false;
            }
            moves.get(node).remove(moves.get(node).size() - 1);
            return true;
        }

        private boolean change(int node, int worth, boolean lost) {
            if (!has(node) || !isWorth(worth)) {
                return false;
            }
            worths.set(node, worth);
            losts.set(node, lost);
            return true;
        }

        private int value(int node, int depth) {
            check(node, depth);
            return v(node, depth);
        }

        private int best(int node, int depth) {
            check(node, depth);
            return bestOf(node, depth);
        }

        private int line(int node, int depth, int i) {
            check(node, depth);
            List<Integer> play = new ArrayList<>();
            int at = node;
            int left = depth;
            play.add(at);
            for (int m = bestOf(at, left); m != -1; m = bestOf(at, left)) {
                at = moves.get(at).get(m);
                left--;
                play.add(at);
            }
            return i >= 0 && i < play.size() ? play.get(i) : -1;
        }

        private int ties(int node, int depth) {
            check(node, depth);
            int first = bestOf(node, depth);
            if (first == -1) {
                return 0;
            }
            int due = b(v(moves.get(node).get(first), depth - 1));
            int count = 0;
            for (int y : moves.get(node)) {
                count += b(v(y, depth - 1)) == due ? 1 : 0;
            }
            return count;
        }

        private int settled(int node, int depth) {
            check(node, depth);
            for (int least = 0; least < depth; least++) {
                boolean same = true;
                for (int d = least; d <= depth; d++) {
                    same &= v(node, d) == v(node, depth);
                }
                if (same) {
                    return least;
                }
            }
            return depth;
        }

        private int of(int node, int w) {
            if (!has(node) || w < 0 || w > 8) {
                return -1;
            }
            if (w == 0) {
                return worths.get(node);
            }
            if (w == 1) {
                return losts.get(node) ? 1 : 0;
            }
            List<Integer> own = moves.get(node);
            return w == 2 ? own.size() : w - 3 < own.size() ? own.get(w - 3) : -1;
        }

        private int around(int node, int depth) {
            check(node, depth);
            TreeSet<Integer> come = new TreeSet<>();
            come.add(node);
            for (int step = 0; step < depth; step++) {
                for (int x : new ArrayList<>(come)) {
                    come.addAll(moves.get(x));
                }
            }
            return come.size();
        }

        private int look(int which) {
            int all = 0;
            for (List<Integer> own : moves) {
                all += own.size();
            }
            return which == 0 ? worths.size() : which == 1 ? all : -1;
        }
    }

    private final Random random;
    private final int seed;
    private final int nodesWanted;
    private final int movesWanted;
    private final int deepest;
    private final Model model = new Model();
    private final GraphSearch game;

    private RandomRunsTest(int seed) {
        this.seed = seed;
        random = new Random(seed);
        nodesWanted = 1 + random.nextInt(seed % 10 == 0 ? 200 : 12);
        // The model looks at every play there is: where nodes are full of moves, it can not look far.
        boolean full = seed % 5 == 1;
        movesWanted = nodesWanted * (full ? 6 : 1 + random.nextInt(3));
        deepest = full ? 3 : 7;
        game = new GraphSearch(random.nextInt(15) - 2);
    }

    private int number(int from, int to) {
        return random.nextInt(25) == 0 ? ODD[random.nextInt(ODD.length)] : from + random.nextInt(to - from + 1);
    }

    private int someNode() {
        return number(0, Math.max(0, model.look(0) - 1));
    }

    private int someWorth() {
        return random.nextInt(3) == 0 ? number(-2, 2) : number(-500, 500);
    }

    private int kindOfCall() {
        if (model.look(0) < nodesWanted && random.nextInt(3) == 0) {
            return 0;
        }
        if (model.look(1) < movesWanted && random.nextInt(2) == 0) {
            return 1;
        }
        return 2 + random.nextInt(11);
    }

    private void same(String call, Due.Call got, Due.Call due) {
        Due.due("seed " + seed + ": " + call, Due.answerOf(due), got);
    }

    private void change(int kind) {
        int a = someNode();
        int b = someNode();
        int worth = someWorth();
        boolean lost = random.nextInt(3) == 0;
        switch (kind) {
            case 0 -> same("node", () -> game.node(worth, lost), () -> model.node(worth, lost));
            case 1 -> same("move", () -> game.move(a, b), () -> model.move(a, b));
            case 2 -> same("drop", () -> game.drop(a), () -> model.drop(a));
            default -> same("change", () -> game.change(a, worth, lost), () -> model.change(a, worth, lost));
        }
    }

    private void ask(int kind) {
        int a = someNode();
        int d = number(0, deepest);
        int i = number(-1, 9);
        switch (kind) {
            case 4 -> same("value", () -> game.value(a, d), () -> model.value(a, d));
            case 5 -> same("best", () -> game.best(a, d), () -> model.best(a, d));
            case 6 -> reaches(a, d);
            case 7 -> same("line", () -> game.line(a, d, i), () -> model.line(a, d, i));
            case 8 -> same("ties", () -> game.ties(a, d), () -> model.ties(a, d));
            case 9 -> same("settled", () -> game.settled(a, d), () -> model.settled(a, d));
            case 10 -> same("of", () -> game.of(a, i), () -> model.of(a, i));
            case 11 -> same("around", () -> game.around(a, d), () -> model.around(a, d));
            default -> same("look", () -> game.look(i), () -> model.look(i));
        }
    }

    private void reaches(int node, int depth) {
        int near = random.nextInt(3) - 1;
        int v = model.has(node) && depth >= 0 && depth <= 7 ? model.v(node, depth) + near : near;
        same("reaches", () -> game.reaches(node, depth, v), () -> model.value(node, depth) >= v);
    }

    private void run() {
        for (int call = 0; call < CALLS; call++) {
            int kind = kindOfCall();
            if (kind <= 3) {
                change(kind);
            } else {
                ask(kind);
            }
        }
    }

    public static void main(String[] args) {
        for (int seed = 1; seed <= RUNS; seed++) {
            new RandomRunsTest(seed).run();
        }
        Due.end();
    }
}
