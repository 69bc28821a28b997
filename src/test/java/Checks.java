/** Counts the answers that are due, prints those that are not, and plays short scripts of a game. */
final class Checks {
    private int passed = 0;
    private int failed = 0;

    void due(String what, long got, long want) {
        if (got == want) {
            passed++;
        } else {
            fail(what + " answered " + got + ", due is " + want);
        }
    }

    void due(String what, boolean got, boolean want) {
        due(what, got ? 1 : 0, want ? 1 : 0);
    }

    /** The call must throw exactly this exception and leave all that can be asked as it was. */
    void dueThrow(String what, PachisiYard game, Class<? extends RuntimeException> want, Runnable call) {
        String before = pictureOf(game);
        Class<?> got = null;
        try {
            call.run();
        } catch (RuntimeException e) {
            got = e.getClass();
        }
        if (got == want) {
            passed++;
        } else {
            fail(what + " throws " + got + ", due is " + want);
        }
        if (!before.equals(pictureOf(game))) {
            fail(what + " changed the game");
        }
    }

    void outOfBounds(String what, PachisiYard game, Runnable call) {
        dueThrow(what, game, IndexOutOfBoundsException.class, call);
    }

    void badArgument(String what, PachisiYard game, Runnable call) {
        dueThrow(what, game, IllegalArgumentException.class, call);
    }

    void notNow(String what, PachisiYard game, Runnable call) {
        dueThrow(what, game, IllegalStateException.class, call);
    }

    /**
     * Plays a script: "1>2" throws with one mouth up and moves piece 2, "3" alone is a throw that must be lost,
     * a bar between turns is for the reader.
     */
    void play(PachisiYard game, String script) {
        for (String word : script.trim().split("[ |]+")) {
            int mouths = word.charAt(0) - '0';
            int worth = game.throwShells(mouths);
            if (word.length() == 1) {
                due(script + ": throw " + word + " is lost", worth < 0, true);
            } else {
                due(script + ": throw " + word + " is not lost", worth > 0, true);
                game.move(word.charAt(2) - '0');
            }
        }
    }

    void end(String name) {
        System.out.println(name + ": " + passed + " answers as due, " + failed + " not");
        if (failed > 0 || passed == 0) {
            System.exit(1);
        }
    }

    private void fail(String text) {
        failed++;
        if (failed <= 50) {
            System.out.println(text);
        }
    }

    private static String pictureOf(PachisiYard game) {
        StringBuilder text = new StringBuilder();
        for (int player = 0; player < 4; player++) {
            for (int piece = 0; piece < 4; piece++) {
                text.append(game.position(player, piece)).append(' ');
            }
            text.append("captures ").append(game.captures(player)).append(' ');
        }
        text.append("phase ").append(game.phase()).append(" turn ").append(game.onTurn());
        text.append(" graces ").append(game.graces());
        if (game.phase() == 1) {
            text.append(" movable ").append(game.movable());
        }
        return text.toString();
    }
}
