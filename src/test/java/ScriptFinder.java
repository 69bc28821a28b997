import java.util.ArrayList;
import java.util.List;
import java.util.Random;

/**
 * Finds a script, as Checks plays it, that brings pieces to given positions. Pieces may meet on their ways, so several
 * ways are tried on the model, the same ones at every run.
 */
final class ScriptFinder {
    private static final int TRIES = 5000;
    // A picture of the game, some 225 calls, still has to fit into the 512 calls of an object.
    private static final int MOST_CALLS = 240;

    private final Random random;
    private final boolean straight;
    private final List<String> turns = new ArrayList<>();
    private final StringBuilder turn = new StringBuilder();
    private int graces = 0;

    private ScriptFinder(Random random, boolean straight) {
        this.random = random;
        this.straight = straight;
    }

    static String scriptTo(int onTurn, int[][] positions) {
        for (int seed = 0; seed < TRIES; seed++) {
            String script = scriptBy(new Random(seed), seed == 0, onTurn, positions);
            if (leadsTo(script, onTurn, positions)) {
                return script;
            }
        }
        throw new IllegalArgumentException("no way to these positions has been found");
    }

    /** A player who needs fewer turns than another has lost throws first. */
    private static String scriptBy(Random random, boolean straight, int onTurn, int[][] positions) {
        List<List<String>> turns = new ArrayList<>();
        int rounds = 0;
        for (int player = 0; player < 4; player++) {
            turns.add(new ScriptFinder(random, straight).turnsTo(positions[player]));
            rounds = Math.max(rounds, turns.get(player).size() - (player < onTurn ? 1 : 0));
        }
        StringBuilder script = new StringBuilder();
        for (int turn = 0; turn < 4 * rounds + onTurn; turn++) {
            List<String> ofPlayer = turns.get(turn % 4);
            int all = rounds + (turn % 4 < onTurn ? 1 : 0);
            int next = turn / 4 - (all - ofPlayer.size());
            script.append(next < 0 ? "2" : ofPlayer.get(next)).append(" | ");
        }
        return script.toString();
    }

    /** Turns that bring a player's pieces to these positions, one behind the other, and end with no grace. */
    private List<String> turnsTo(int[] positions) {
        for (int piece = 0; piece < positions.length; piece++) {
            if (positions[piece] > 0) {
                addGrace(6, piece);
                goOn(piece, positions[piece] - 1);
            }
            if (graces == 2) {
                turn.append("6");
                endTurn();
            }
        }
        if (graces > 0) {
            throw new IllegalArgumentException("no turn ends with a single piece on position 1");
        }
        return turns;
    }

    private void goOn(int piece, int positions) {
        int left = positions;
        while (left > 0) {
            left -= graceOf(25, piece, left);
            left -= graceOf(10, piece, left);
            left -= graceOf(10, piece, left);
            int step = stepFor(left, straight ? 5 : 2 + random.nextInt(4));
            turn.append(step).append('>').append(piece);
            endTurn();
            left -= step;
        }
    }

    private int graceOf(int worth, int piece, int left) {
        if (graces == 2 || left < worth + 2 || !straight && random.nextBoolean()) {
            return 0;
        }
        addGrace(worth == 25 ? 0 : 1, piece);
        return worth;
    }

    private void addGrace(int mouths, int piece) {
        turn.append(mouths).append('>').append(piece).append(' ');
        graces++;
    }

    private void endTurn() {
        turns.add(turn.toString());
        turn.setLength(0);
        graces = 0;
    }

    /** No throw is worth 1, so a step must not leave 1. */
    private static int stepFor(int left, int wish) {
        for (int step = wish; step >= 2; step--) {
            if (step == left || step <= left - 2) {
                return step;
            }
        }
        return left;
    }

    private static boolean leadsTo(String script, int onTurn, int[][] positions) {
        Model model = new Model();
        int calls = 0;
        for (String word : script.split("[ |]+")) {
            calls += word.length() > 1 ? 2 : 1;
            if (!word.isEmpty() && !plays(model, word)) {
                return false;
            }
        }
        boolean same = model.turn == onTurn && model.row == 0 && model.phase == 0 && calls <= MOST_CALLS;
        for (int player = 0; player < 4; player++) {
            for (int piece = 0; piece < 4; piece++) {
                int due = piece < positions[player].length ? positions[player][piece] : 0;
                same &= model.at[player][piece] == due;
            }
        }
        return same;
    }

    private static boolean plays(Model model, String word) {
        boolean lost = model.fall(word.charAt(0) - '0') < 0;
        if (word.length() == 1 || lost) {
            return lost && word.length() == 1;
        }
        int piece = word.charAt(2) - '0';
        return (model.set() >> piece & 1) == 1 && model.go(piece) < 100;
    }
}
