import java.io.IOException;
import java.nio.file.Files;
import java.nio.file.Path;
import java.util.TreeSet;
import java.util.regex.Matcher;
import java.util.regex.Pattern;

/** Plays the example of README.md, read from there, so that what it tells of the calls stays true. */
final class ReadmeTest {
    private static final Checks C = new Checks();
    private static final String NEW_GAME = "PachisiYard game = new PachisiYard();";
    private static final Pattern CALL =
            Pattern.compile("game\\.(\\w+)\\(([-0-9, ]*)\\);\\s*// (throws \\w+|-?\\d+|true|false)\\b.*");

    public static void main(String[] args) throws IOException {
        TreeSet<String> called = new TreeSet<>();
        PachisiYard game = null;
        for (String line : Files.readAllLines(Path.of("README.md"))) {
            Matcher call = CALL.matcher(line);
            if (line.equals(NEW_GAME)) {
                game = new PachisiYard();
            } else if (game != null && call.matches()) {
                called.add(call.group(1));
                String got = answerOf(game, call.group(1), numbersOf(call.group(2)));
                C.due(line + " It answers " + got + "; as told", got.equals(call.group(3)), true);
            } else {
                C.due("\"" + line + "\" is a call with its answer", line.startsWith("game."), false);
            }
        }
        C.due("calls of the face that the example shows: " + called.size() + "; all", called.size(), 18);
        C.end("ReadmeTest");
    }

    private static int[] numbersOf(String list) {
        if (list.isEmpty()) {
            return new int[0];
        }
        String[] words = list.split(", ");
        int[] numbers = new int[words.length];
        for (int k = 0; k < words.length; k++) {
            numbers[k] = Integer.parseInt(words[k]);
        }
        return numbers;
    }

    private static String answerOf(PachisiYard game, String name, int[] a) {
        try {
            return String.valueOf(call(game, name, a));
        } catch (RuntimeException e) {
            return "throws " + e.getClass().getSimpleName();
        }
    }

    private static Object call(PachisiYard game, String name, int[] a) {
        switch (name) {
            case "throwShells": return game.throwShells(a[0]);
            case "move": return game.move(a[0]);
            case "phase": return game.phase();
            case "onTurn": return game.onTurn();
            case "mover": return game.mover();
            case "movable": return game.movable();
            case "graces": return game.graces();
            case "position": return game.position(a[0], a[1]);
            case "square": return game.square(a[0], a[1]);
            case "standing": return game.standing(a[0], a[1]);
            case "isSafe": return game.isSafe(a[0]);
            case "home": return game.home(a[0]);
            case "captures": return game.captures(a[0]);
            case "winner": return game.winner();
            case "distance": return game.distance(a[0]);
            case "ways": return game.ways(a[0]);
            case "threat": return game.threat(a[0], a[1], a[2]);
            case "captureChance": return game.captureChance(a[0]);
            default: throw new AssertionError(name);
        }
    }
}
