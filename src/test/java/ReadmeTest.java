import java.io.IOException;
import java.lang.reflect.Method;
import java.lang.reflect.Modifier;
import java.nio.file.Files;
import java.nio.file.Path;
import java.util.List;

/** README.md tells the answers that the class gives, and tells of every call of the face. */
public final class ReadmeTest {
    private static final String ANSWER = "// ";

    public static void main(String[] args) throws IOException {
        // .ci/run runs the tests where README.md lies.
        List<String> readme = Files.readAllLines(Path.of("README.md"));
        answersOfTheExample(readme);
        everyCallIsTold(readme);
        Due.end();
    }

    private static void answersOfTheExample(List<String> readme) {
        GraphSearch game = new GraphSearch(0);
        int start = game.node(10, false);
        int quiet = game.node(-20, false);
        int mated = game.node(0, true);
        game.move(start, quiet);
        game.move(start, mated);
        told(readme, "game.value(start, 1);", () -> game.value(start, 1));
        told(readme, "game.best(start, 1);", () -> game.best(start, 1));
        told(readme, "game.line(start, 1, 1);", () -> game.line(start, 1, 1));
        told(readme, "game.of(start, 2);", () -> game.of(start, 2));
    }

    /** The answer is the number that the line of this call tells behind it. */
    private static void told(List<String> readme, String call, Due.Call answer) {
        Object told = "no line of README.md";
        for (String line : readme) {
            if (line.startsWith(call) && line.contains(ANSWER)) {
                String comment = line.substring(line.indexOf(ANSWER) + ANSWER.length());
                told = Integer.valueOf(comment.split("[^-0-9]")[0]);
            }
        }
        Due.due("README.md: " + call, told, answer);
    }

    private static void everyCallIsTold(List<String> readme) {
        for (Method method : GraphSearch.class.getDeclaredMethods()) {
            if (Modifier.isPublic(method.getModifiers())) {
                String row = "| `" + method.getName() + "(";
                Due.due("README.md has a row of " + method.getName(), true,
                    () -> readme.stream().anyMatch(line -> line.startsWith(row)));
            }
        }
    }
}
