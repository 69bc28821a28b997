import java.util.List;
import java.util.function.Consumer;
import java.util.function.Supplier;

/**
 * The refused calls of all promises: the exception that is due, which of them goes first, and that nothing changes.
 * Each wrong value stands beside the smallest and the greatest that is allowed, or would lead back among the allowed
 * ones by a remainder or a wrap-around.
 */
final class RefusalTest {
    private static final Checks C = new Checks();
    private static final Class<?> BOUNDS = IndexOutOfBoundsException.class;
    private static final Class<?> ARGUMENT = IllegalArgumentException.class;
    private static final Class<?> STATE = IllegalStateException.class;

    private static final int LEAST = Integer.MIN_VALUE;
    private static final int MOST = Integer.MAX_VALUE;
    private static final int[] NO_PLAYERS_OR_PIECES = {LEAST, -1 << 30, -4, -1, 4, 5, 1 << 30, MOST};
    private static final int[] NO_SQUARES = {LEAST, -68, -1, 68, 69, 136, MOST};
    private static final int[] NO_TEAMS = {LEAST, -2, -1, 2, 3, MOST};
    private static final int[] NO_MOUTHS = {LEAST, -1, 7, 8, 10, 25, MOST};
    private static final int[] NO_WHATS = {LEAST, -1, 4, 5, MOST};
    private static final int[] NO_THROWS_LEFT = {LEAST, -1, 0, 4, 5, MOST};

    private static final List<Supplier<PachisiYard>> TO_THROW =
            List.of(PachisiYard::new, RefusalTest::midway, RefusalTest::twoGraces);
    private static final List<Supplier<PachisiYard>> TO_MOVE = List.of(RefusalTest::entering, RefusalTest::thrown);
    private static final List<Supplier<PachisiYard>> OVER = List.of(RefusalTest::wonByTeam0, RefusalTest::wonByTeam1);
    private static final List<Supplier<PachisiYard>> ALL = List.of(PachisiYard::new, RefusalTest::midway,
            RefusalTest::twoGraces, RefusalTest::entering, RefusalTest::thrown, RefusalTest::wonByTeam0,
            RefusalTest::wonByTeam1);

    public static void main(String[] args) {
        throwShellsOutOfRange();
        throwShellsAtTheWrongTime();
        moveOfNoPiece();
        moveAtTheWrongTime();
        moveOfAPieceThatCannot();
        movableAtTheWrongTime();
        positionAndSquareOfNothing();
        standingNowhereOrOfNoTeam();
        isSafeNowhere();
        homeAndCapturesOfNobody();
        distanceOfNoTeam();
        waysOutOfRange();
        waysAtTheWrongTime();
        threatOfNothing();
        threatByNobody();
        captureChanceOutOfRange();
        captureChanceAtTheWrongTime();
        C.end("RefusalTest");
    }

    private static PachisiYard midway() {
        return Scenes.fiveBehind(C);
    }

    private static PachisiYard twoGraces() {
        return Scenes.played(C, "6>0 1>0 5>0 | 6>0 3>0 | 2 | 2 | 6>1 6>2");
    }

    private static PachisiYard entering() {
        PachisiYard game = new PachisiYard();
        game.throwShells(0);
        return game;
    }

    private static PachisiYard thrown() {
        PachisiYard game = midway();
        game.throwShells(5);
        return game;
    }

    private static PachisiYard wonByTeam0() {
        PachisiYard game = Scenes.lastPieceAtSeventy(C, 0);
        C.play(game, "2>3");
        return game;
    }

    private static PachisiYard wonByTeam1() {
        PachisiYard game = Scenes.lastPieceAtSeventy(C, 1);
        C.play(game, "2>3");
        return game;
    }

    private static void refused(String what, Class<?> want, List<Supplier<PachisiYard>> scenes,
            Consumer<PachisiYard> call) {
        for (int k = 0; k < scenes.size(); k++) {
            C.refused(what + " in scene " + k + " of " + scenes.size(), want, scenes.get(k), call);
        }
    }

    // "Throws IllegalArgumentException if mouths is out of range", and ahead of IllegalStateException.
    private static void throwShellsOutOfRange() {
        for (int wrong : NO_MOUTHS) {
            refused("throwShells(" + wrong + ")", ARGUMENT, ALL, game -> game.throwShells(wrong));
        }
    }

    // "Throws IllegalStateException if a piece has to be moved, or the game is over".
    private static void throwShellsAtTheWrongTime() {
        for (int mouths = 0; mouths <= 6; mouths++) {
            int asked = mouths;
            refused("throwShells(" + mouths + ") ahead of a move", STATE, TO_MOVE, game -> game.throwShells(asked));
            refused("throwShells(" + mouths + ") when over", STATE, OVER, game -> game.throwShells(asked));
        }
    }

    // "Throws IndexOutOfBoundsException if there is no such piece", and ahead of IllegalStateException.
    private static void moveOfNoPiece() {
        for (int wrong : NO_PLAYERS_OR_PIECES) {
            refused("move(" + wrong + ")", BOUNDS, ALL, game -> game.move(wrong));
        }
    }

    // "Throws IllegalStateException if there is no throw".
    private static void moveAtTheWrongTime() {
        for (int piece = 0; piece < 4; piece++) {
            int asked = piece;
            refused("move(" + piece + ") with no throw", STATE, TO_THROW, game -> game.move(asked));
            refused("move(" + piece + ") when over", STATE, OVER, game -> game.move(asked));
            C.refused("move(" + piece + ") by a lost throw", STATE, () -> Scenes.played(C, "5"),
                    game -> game.move(asked));
            C.refused("move(" + piece + ") by a lost grace", STATE, () -> Scenes.played(C, "6>0 0>0 1"),
                    game -> game.move(asked));
            C.refused("a second move(" + piece + ") by one throw", STATE, () -> Scenes.played(C, "0>0"),
                    game -> game.move(asked));
        }
    }

    // "or the piece cannot move by it".
    private static void moveOfAPieceThatCannot() {
        for (int piece = 1; piece < 4; piece++) {
            int asked = piece;
            C.refused("piece " + piece + " in the yard", STATE, RefusalTest::thrown, game -> game.move(asked));
        }
        C.refused("onto a castle", STATE, () -> afterThrow(Scenes.castleAhead(C), 5), game -> game.move(0));
        C.refused("past a castle", STATE, () -> afterThrow(Scenes.castleAhead(C), 6), game -> game.move(0));
        C.refused("onto a sheltered piece", STATE, () -> afterThrow(Scenes.placed(C, 0,
                new int[][] {{14, 3}, {}, {}, {35}}), 4), game -> game.move(0));
        C.refused("beyond 72", STATE, () -> afterThrow(Scenes.placed(C, 0,
                new int[][] {{70, 3}, {}, {}, {}}), 3), game -> game.move(0));
        C.refused("a piece at home", STATE, () -> afterThrow(Scenes.placed(C, 0,
                new int[][] {{72, 3}, {}, {}, {}}), 3), game -> game.move(0));
    }

    private static PachisiYard afterThrow(PachisiYard game, int mouths) {
        C.due("the throw is not lost", game.throwShells(mouths) > 0, true);
        return game;
    }

    // "Throws IllegalStateException if there is no throw".
    private static void movableAtTheWrongTime() {
        refused("movable() with no throw", STATE, TO_THROW, PachisiYard::movable);
        refused("movable() when over", STATE, OVER, PachisiYard::movable);
        C.refused("movable() by a lost throw", STATE, () -> Scenes.played(C, "5"), PachisiYard::movable);
        C.refused("movable() by a lost grace", STATE, () -> Scenes.played(C, "6>0 0>0 1"), PachisiYard::movable);
        C.refused("movable() behind the move", STATE, () -> Scenes.played(C, "0>0"), PachisiYard::movable);
    }

    // "Throws IndexOutOfBoundsException if there is no such player or piece", of position and square.
    private static void positionAndSquareOfNothing() {
        for (int wrong : NO_PLAYERS_OR_PIECES) {
            for (int right : new int[] {0, 3}) {
                refused("position(" + wrong + ", " + right + ")", BOUNDS, ALL, game -> game.position(wrong, right));
                refused("position(" + right + ", " + wrong + ")", BOUNDS, ALL, game -> game.position(right, wrong));
                refused("square(" + wrong + ", " + right + ")", BOUNDS, ALL, game -> game.square(wrong, right));
                refused("square(" + right + ", " + wrong + ")", BOUNDS, ALL, game -> game.square(right, wrong));
            }
            refused("position(" + wrong + ", " + wrong + ")", BOUNDS, ALL, game -> game.position(wrong, wrong));
            refused("square(" + wrong + ", " + wrong + ")", BOUNDS, ALL, game -> game.square(wrong, wrong));
        }
        refused("position(1, -4), as 4 less 4", BOUNDS, ALL, game -> game.position(1, -4));
        refused("square(-1, 4), as 4 less 4", BOUNDS, ALL, game -> game.square(-1, 4));
    }

    // Of standing: IndexOutOfBoundsException for a square, IllegalArgumentException for a team, the first one first.
    private static void standingNowhereOrOfNoTeam() {
        for (int wrong : NO_SQUARES) {
            for (int team : new int[] {0, 1, -1, 2, LEAST, MOST}) {
                refused("standing(" + wrong + ", " + team + ")", BOUNDS, ALL, game -> game.standing(wrong, team));
            }
        }
        for (int wrong : NO_TEAMS) {
            for (int square : new int[] {0, 67}) {
                refused("standing(" + square + ", " + wrong + ")", ARGUMENT, ALL,
                        game -> game.standing(square, wrong));
            }
        }
    }

    // "Throws IndexOutOfBoundsException if there is no such square", of isSafe; 72 and -64 divided by 17 leave 4.
    private static void isSafeNowhere() {
        for (int wrong : NO_SQUARES) {
            refused("isSafe(" + wrong + ")", BOUNDS, ALL, game -> game.isSafe(wrong));
        }
        refused("isSafe(72)", BOUNDS, ALL, game -> game.isSafe(72));
        refused("isSafe(-64)", BOUNDS, ALL, game -> game.isSafe(-64));
    }

    // "Throws IndexOutOfBoundsException if there is no such player", of home and captures.
    private static void homeAndCapturesOfNobody() {
        for (int wrong : NO_PLAYERS_OR_PIECES) {
            refused("home(" + wrong + ")", BOUNDS, ALL, game -> game.home(wrong));
            refused("captures(" + wrong + ")", BOUNDS, ALL, game -> game.captures(wrong));
        }
    }

    // "Throws IllegalArgumentException if there is no such team", of distance.
    private static void distanceOfNoTeam() {
        for (int wrong : NO_TEAMS) {
            refused("distance(" + wrong + ")", ARGUMENT, ALL, game -> game.distance(wrong));
        }
    }

    // "Throws IllegalArgumentException if what is out of range", and ahead of IllegalStateException.
    private static void waysOutOfRange() {
        for (int wrong : NO_WHATS) {
            refused("ways(" + wrong + ")", ARGUMENT, ALL, game -> game.ways(wrong));
        }
    }

    // "Throws IllegalStateException if no throw is to be made", of ways.
    private static void waysAtTheWrongTime() {
        for (int what = 0; what < 4; what++) {
            int asked = what;
            refused("ways(" + what + ") ahead of a move", STATE, TO_MOVE, game -> game.ways(asked));
            refused("ways(" + what + ") when over", STATE, OVER, game -> game.ways(asked));
        }
    }

    // "Throws IndexOutOfBoundsException if there is no such player or piece", ahead of what is wrong with by.
    private static void threatOfNothing() {
        for (int wrong : NO_PLAYERS_OR_PIECES) {
            for (int by : new int[] {0, 1, 2, 3, -1, 4}) {
                refused("threat(" + wrong + ", 0, " + by + ")", BOUNDS, ALL, game -> game.threat(wrong, 0, by));
                refused("threat(0, " + wrong + ", " + by + ")", BOUNDS, ALL, game -> game.threat(0, wrong, by));
                refused("threat(3, " + wrong + ", " + by + ")", BOUNDS, ALL, game -> game.threat(3, wrong, by));
            }
        }
    }

    // "Throws IllegalArgumentException if by is not a player of the other team".
    private static void threatByNobody() {
        for (int player = 0; player < 4; player++) {
            int asked = player;
            for (int wrong : new int[] {LEAST, LEAST + 1, -3, -2, -1, 4, 5, 6, MOST - 1, MOST}) {
                refused("threat(" + player + ", 3, " + wrong + ")", ARGUMENT, ALL,
                        game -> game.threat(asked, 3, wrong));
            }
            refused("threat of " + player + " by itself", ARGUMENT, ALL, game -> game.threat(asked, 0, asked));
            refused("threat of " + player + " by its partner", ARGUMENT, ALL,
                    game -> game.threat(asked, 0, (asked + 2) % 4));
        }
    }

    // "Throws IllegalArgumentException if throwsLeft is out of range", and ahead of IllegalStateException.
    private static void captureChanceOutOfRange() {
        for (int wrong : NO_THROWS_LEFT) {
            refused("captureChance(" + wrong + ")", ARGUMENT, ALL, game -> game.captureChance(wrong));
        }
    }

    // "Throws IllegalStateException if no throw is to be made", of captureChance.
    private static void captureChanceAtTheWrongTime() {
        for (int throwsLeft = 1; throwsLeft <= 3; throwsLeft++) {
            int asked = throwsLeft;
            refused("captureChance(" + asked + ") ahead of a move", STATE, TO_MOVE, game -> game.captureChance(asked));
            refused("captureChance(" + asked + ") when over", STATE, OVER, game -> game.captureChance(asked));
        }
    }
}
