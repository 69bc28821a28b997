import java.util.function.Consumer;
import java.util.function.Supplier;

/** Counts the answers that are due, prints those that are not, and plays short scripts of a game. */
final class Checks {
    private int passed = 0;
    private int failed = 0;

    void due(String what, long got, long want) {
        if (got == want) {
            passed++;
        } else {
            fail(what + " answered " + got + ", due is " + want);
        }
    }

    void dueState(String what, PachisiYard game, int phase, int turn, int mover, int graces) {
        due(what + ": phase", game.phase(), phase);
        due(what + ": onTurn", game.onTurn(), turn);
        due(what + ": mover", game.mover(), mover);
        due(what + ": graces", game.graces(), graces);
    }

    void due(String what, boolean got, boolean want) {
        due(what, got ? 1 : 0, want ? 1 : 0);
    }

    /**
     * The call must throw exactly this exception, and behind it the game must answer and go on as one made the same
     * way that was not called. Two games are made for it: a picture takes many of the 512 calls of an object.
     */
    void refused(String what, Class<?> want, Supplier<PachisiYard> scene, Consumer<PachisiYard> call) {
        PachisiYard game = scene.get();
        Class<?> got = null;
        try {
            call.accept(game);
        } catch (RuntimeException e) {
            got = e.getClass();
        }
        if (got == want) {
            passed++;
        } else {
            fail(what + " throws " + got + ", due is " + want);
        }
        String picture = pictureOf(game);
        if (picture.equals(pictureOf(scene.get()))) {
            passed++;
        } else {
            fail(what + " changed the game to " + picture);
        }
    }

    /**
     * Plays a script: "1>2" throws with one mouth up and moves piece 2, "3" alone is a throw that must be lost,
     * a bar between turns is for the reader.
     */
    void play(PachisiYard game, String script) {
        for (String word : script.trim().split("[ |]+")) {
            if (word.isEmpty()) {
                continue;
            }
            int mouths = word.charAt(0) - '0';
            int worth = game.throwShells(mouths);
            if (word.length() == 1) {
                due(script + ": throw " + word + " is lost", worth < 0, true);
            } else {
                due(script + ": throw " + word + " is not lost", worth > 0, true);
                game.move(word.charAt(2) - '0');
            }
        }
    }

    void end(String name) {
        System.out.println(name + ": " + passed + " answers as due, " + failed + " not");
        if (failed > 0 || passed == 0) {
            System.exit(1);
        }
    }

    private void fail(String text) {
        failed++;
        if (failed <= 50) {
            System.out.println(text);
        }
    }

    /** All that can be asked of a game, and how it goes on, by some 225 calls. */
    private static String pictureOf(PachisiYard game) {
        StringBuilder text = new StringBuilder();
        for (int player = 0; player < 4; player++) {
            tellPlayer(game, player, text);
        }
        for (int square = 0; square < 68; square++) {
            text.append(game.standing(square, 0)).append(game.standing(square, 1));
        }
        text.append(" distances ").append(game.distance(0)).append(' ').append(game.distance(1));
        tellPhase(game, text);
        goOn(game, text);
        return text.toString();
    }

    private static void tellPlayer(PachisiYard game, int player, StringBuilder text) {
        for (int piece = 0; piece < 4; piece++) {
            text.append(game.position(player, piece)).append('/').append(game.square(player, piece)).append('/');
            text.append(game.threat(player, piece, (player + 1) % 4)).append('/');
            text.append(game.threat(player, piece, (player + 3) % 4)).append(' ');
        }
        text.append("home ").append(game.home(player)).append(" captures ").append(game.captures(player)).append(' ');
    }

    private static void tellPhase(PachisiYard game, StringBuilder text) {
        text.append(" phase ").append(game.phase()).append(" turn ").append(game.onTurn());
        text.append(" mover ").append(game.mover()).append(" graces ").append(game.graces());
        text.append(" winner ").append(game.winner());
        if (game.phase() == 1) {
            text.append(" movable ").append(game.movable());
        }
        if (game.phase() == 0) {
            for (int what = 0; what < 4; what++) {
                text.append(" ways ").append(game.ways(what));
            }
            for (int throwsLeft = 1; throwsLeft < 4; throwsLeft++) {
                text.append(" chance ").append(game.captureChance(throwsLeft));
            }
        }
    }

    private static void goOn(PachisiYard game, StringBuilder text) {
        if (game.phase() == 0) {
            text.append(" throws ").append(game.throwShells(6));
        }
        if (game.phase() == 1) {
            text.append(" moves ").append(game.move(Integer.numberOfTrailingZeros(game.movable())));
        }
        text.append(" to phase ").append(game.phase()).append(" turn ").append(game.onTurn());
    }
}
