/** Promises 17 to 19: chances. */
final class ChanceTest {
    private static final Checks C = new Checks();

    public static void main(String[] args) {
        waysOfANewGame();
        waysToMoveAndEnter();
        waysToCapture();
        waysToBringHome();
        waysWithTwoGraces();
        waysForThePartner();
        wrongWays();
        threats();
        threatsByCastlesAndSafeSquares();
        threatsWithNoGracesAhead();
        threatsByThePartner();
        wrongThreats();
        chances();
        chancesWithGracesAhead();
        chancesAcrossThePartner();
        chancesLeaveTheBoard();
        wrongChances();
        C.end("ChanceTest");
    }

    private static void dueWays(String what, PachisiYard game, int move, int capture, int home, int enter) {
        C.due(what + ": ways to move", game.ways(0), move);
        C.due(what + ": ways to capture", game.ways(1), capture);
        C.due(what + ": ways to bring home", game.ways(2), home);
        C.due(what + ": ways to enter", game.ways(3), enter);
    }

    private static void dueChances(String what, PachisiYard game, int one, int two, int three) {
        C.due(what + ": captureChance(1)", game.captureChance(1), one);
        C.due(what + ": captureChance(2)", game.captureChance(2), two);
        C.due(what + ": captureChance(3)", game.captureChance(3), three);
    }

    private static void waysOfANewGame() {
        dueWays("new", new PachisiYard(), 8, 0, 0, 8);
    }

    private static void waysToMoveAndEnter() {
        dueWays("one entered", Scenes.played(C, "6>0"), 64, 0, 0, 8);
        dueWays("entry held", Scenes.entryHeld(C), 0, 0, 0, 0);
        dueWays("entry castle", Scenes.entryCastle(C), 0, 0, 0, 0);
        dueWays("castle two squares ahead", Scenes.mixedCastle(C), 8, 0, 0, 8);
        dueWays("safe piece four ahead", Scenes.safeAhead(C), 49, 0, 0, 8);
    }

    private static void waysToCapture() {
        dueWays("five behind", Scenes.fiveBehind(C), 64, 6, 0, 8);
        dueWays("six behind", Scenes.played(C, "6>0 1>0 4>0 | 6>0 3>0 | 2 | 2"), 64, 1, 0, 8);
        dueWays("four and six behind", Scenes.played(C,
                "1>0 1>0 2>0 | 1>2 0>0 2>0 | 4 | 5 | 3>0 | 4>2 | 4 | 2"), 64, 16, 0, 8);
        dueWays("behind a castle", Scenes.shielded(C), 8, 0, 0, 8);
    }

    private static void waysToBringHome() {
        PachisiYard two = Scenes.played(C, "0>0 0>0 5>0 | 2 | 2 | 2 | 0>0 1>0 4>0 | 2 | 2 | 2");
        dueWays("two away", two, 23, 0, 15, 8);
        PachisiYard last = Scenes.lastPieceAtSeventy(C, 1);
        dueWays("the last one two away", last, 15, 0, 15, 0);
        PachisiYard six = Scenes.lastSixAway(C);
        dueWays("six away", six, 57, 0, 1, 0);
    }

    private static void waysWithTwoGraces() {
        dueWays("a grace", Scenes.played(C, "6>0"), 64, 0, 0, 8);
        dueWays("two graces", Scenes.played(C, "6>0 6>0"), 56, 0, 0, 0);
        PachisiYard six = Scenes.played(C, "6>0 1>0 4>0 | 6>0 3>0 | 2 | 2 | 6>1 6>2");
        dueWays("six behind, two graces", six, 56, 0, 0, 0);
        PachisiYard five = Scenes.fiveBehind(C);
        C.play(five, "6>1 6>2");
        dueWays("five behind, two graces", five, 56, 6, 0, 0);
        PachisiYard held = Scenes.entryHeld(C);
        C.play(held, "0 0");
        dueWays("two lost graces", held, 0, 0, 0, 0);
    }

    private static void waysForThePartner() {
        dueWays("the partner's pieces", Scenes.partnerFiveBehind(C), 64, 6, 0, 8);
    }

    private static void wrongWays() {
        PachisiYard game = new PachisiYard();
        for (int what : new int[] {-1, 4, Integer.MIN_VALUE, Integer.MAX_VALUE}) {
            C.badArgument("ways(" + what + ")", game, () -> game.ways(what));
        }
        game.throwShells(0);
        PachisiYard over = Scenes.lastPieceAtSeventy(C, 0);
        C.play(over, "2>3");
        for (int what = 0; what < 4; what++) {
            int asked = what;
            C.notNow("ways ahead of a move", game, () -> game.ways(asked));
            C.notNow("ways when the game is over", over, () -> over.ways(asked));
        }
        C.badArgument("ways(4) ahead of a move", game, () -> game.ways(4));
        C.badArgument("ways(-1) when the game is over", over, () -> over.ways(-1));
    }

    private static void threats() {
        PachisiYard game = Scenes.fiveBehind(C);
        C.due("five behind", game.threat(1, 0, 0), 6);
        C.due("no piece of player 2", game.threat(1, 0, 2), 0);
        C.due("in the yard", game.threat(1, 1, 0), 0);
        C.due("ahead of the other", game.threat(0, 0, 1), 0);
        C.due("no piece of player 3", game.threat(0, 0, 3), 0);
        game.throwShells(2);
        C.due("asked ahead of a move", game.threat(1, 0, 0), 6);
        PachisiYard two = Scenes.played(C, "1>0 1>0 2>0 | 1>2 0>0 2>0 | 4 | 5 | 3>0 | 4>2 | 4 | 2");
        C.due("this piece alone, four ahead", two.threat(1, 0, 0), 15);
        C.due("this piece alone, six ahead", two.threat(1, 2, 0), 1);
        PachisiYard far = Scenes.played(C, "2 | 6>0 5>0 | 0>0 2>0 | 2 | 2 | 2>0");
        C.due("ten and more behind", far.square(2, 0) - far.square(1, 0), 12);
        C.due("out of reach", far.threat(2, 0, 1), 0);
        PachisiYard ten = Scenes.tenBehind(C);
        C.due("ten behind", ten.threat(1, 0, 0), 6);
        PachisiYard most = Scenes.played(C, "6>0 5>0 | 6>0 1>0 3>0 | 2 | 2");
        C.due("25 behind", most.threat(1, 0, 0), 1);
        PachisiYard lane = Scenes.played(C, "0>0 0>0 5>0 | 2 | 2 | 2 | 0>0 1>0 4>0");
        C.due("on the lane", lane.threat(0, 0, 1), 0);
        PachisiYard over = Scenes.lastPieceAtSeventy(C, 0);
        C.play(over, "2>3");
        C.due("a piece at home", over.threat(0, 0, 1), 0);
        C.due("by a team at home", over.threat(1, 0, 2), 0);
    }

    private static void threatsByCastlesAndSafeSquares() {
        PachisiYard castle = Scenes.castleAhead(C);
        C.due("in a castle", castle.threat(1, 0, 0), 0);
        C.due("in a castle, the other piece", castle.threat(1, 1, 0), 0);
        C.due("behind a castle", Scenes.shielded(C).threat(1, 2, 0), 0);
        C.due("behind a castle of two players", Scenes.mixedCastle(C).threat(1, 0, 0), 0);
        PachisiYard safe = Scenes.safeAhead(C);
        C.due("on a safe square", safe.threat(1, 1, 0), 0);
        C.due("where the other one enters", Scenes.entryHeld(C).threat(0, 0, 1), 0);
    }

    private static void threatsWithNoGracesAhead() {
        PachisiYard game = Scenes.played(C, "6>0 1>0 4>0 | 6>0 3>0 | 2 | 2 | 6>1 6>2");
        C.due("two graces", game.graces(), 2);
        C.due("six behind, as if with no graces", game.threat(1, 0, 0), 1);
        C.due("and no way to capture now", game.ways(1), 0);
    }

    private static void threatsByThePartner() {
        PachisiYard game = Scenes.partnerFiveBehind(C);
        C.due("by the partner", game.threat(3, 0, 2), 6);
        C.due("by the player who is through", game.threat(3, 0, 0), 6);
        PachisiYard six = Scenes.lastSixAway(C);
        C.due("by the partner", six.threat(3, 0, 2), 6);
        C.due("by a player not yet through", six.threat(3, 0, 0), 0);
    }

    private static void wrongThreats() {
        PachisiYard game = Scenes.fiveBehind(C);
        for (int wrong : new int[] {-1, 4, Integer.MIN_VALUE, Integer.MAX_VALUE}) {
            C.outOfBounds("player " + wrong, game, () -> game.threat(wrong, 0, 0));
            C.outOfBounds("piece " + wrong, game, () -> game.threat(0, wrong, 1));
            C.outOfBounds("player " + wrong + " goes first", game, () -> game.threat(wrong, 0, 9));
            C.outOfBounds("piece " + wrong + " goes first", game, () -> game.threat(0, wrong, 2));
            C.badArgument("by " + wrong, game, () -> game.threat(1, 0, wrong));
        }
        for (int wrong : new int[] {-3, -2, 5, 6}) {
            C.badArgument("by " + wrong, game, () -> game.threat(0, 0, wrong));
            C.badArgument("by " + wrong, game, () -> game.threat(1, 0, wrong));
        }
        for (int player = 0; player < 4; player++) {
            int asked = player;
            C.badArgument("by oneself", game, () -> game.threat(asked, 0, asked));
            C.badArgument("by the partner", game, () -> game.threat(asked, 0, (asked + 2) % 4));
        }
    }

    private static void chances() {
        dueChances("new", new PachisiYard(), 0, 0, 0);
        // 5 captures at once; a grace that enters a piece leaves the 5 for the next throw: 6 * 64 + 8 * 6, and so on.
        dueChances("five behind", Scenes.fiveBehind(C), 6, 432, 28032);
        dueChances("a castle", Scenes.shielded(C), 0, 0, 0);
        // 10 and then 5; with three throws another grace may go ahead or between, at best to enter a piece.
        dueChances("15 behind", Scenes.played(C, "6>0 5>0 | 6>0 3>0 | 2 | 2"), 0, 36, 2664);
    }

    private static void chancesWithGracesAhead() {
        PachisiYard one = Scenes.fiveBehind(C);
        C.play(one, "6>1");
        // The piece on position 1 or those in the yard take the second grace; a third one is lost.
        dueChances("one grace ahead", one, 6, 432, 27648);
        PachisiYard two = Scenes.fiveBehind(C);
        C.play(two, "6>1 6>2");
        dueChances("two graces ahead", two, 6, 384, 24576);
        PachisiYard held = Scenes.entryHeld(C);
        C.play(held, "0");
        dueChances("lost graces", held, 0, 0, 0);
    }

    private static void chancesAcrossThePartner() {
        dueChances("for the partner", Scenes.partnerFiveBehind(C), 6, 432, 28032);
        // Only a 6 brings the last piece home, and then the partner's 5 captures; 25 and 10 are lost, but throw again.
        dueChances("the last piece six away", Scenes.lastSixAway(C), 0, 6, 474);
        dueChances("the game ends first", Scenes.lastOfTheTeamSixAway(C), 0, 0, 0);
    }

    private static void chancesLeaveTheBoard() {
        PachisiYard game = Scenes.lastSixAway(C);
        game.captureChance(3);
        C.due("piece 3", game.position(0, 3), 66);
        C.due("the partner's piece", game.position(2, 0), 16);
        C.due("the partner's square", game.standing(53, 0), 1);
        C.due("the other team's square", game.standing(58, 1), 1);
        C.due("home", game.home(0), 3);
        C.due("mover", game.mover(), 0);
        C.due("phase", game.phase(), 0);
        C.due("graces", game.graces(), 0);
        C.due("captures", game.captures(0), 0);
        for (int square = 0; square < 68; square++) {
            int due = square == 53 ? 1 : 0;
            C.due("standing on " + square, game.standing(square, 0), due);
        }
    }

    private static void wrongChances() {
        PachisiYard game = new PachisiYard();
        for (int wrong : new int[] {-1, 0, 4, Integer.MIN_VALUE, Integer.MAX_VALUE}) {
            C.badArgument("captureChance(" + wrong + ")", game, () -> game.captureChance(wrong));
        }
        game.throwShells(0);
        PachisiYard over = Scenes.lastPieceAtSeventy(C, 0);
        C.play(over, "2>3");
        for (int throwsLeft = 1; throwsLeft <= 3; throwsLeft++) {
            int asked = throwsLeft;
            C.notNow("captureChance ahead of a move", game, () -> game.captureChance(asked));
            C.notNow("captureChance when the game is over", over, () -> over.captureChance(asked));
        }
        C.badArgument("captureChance(0) ahead of a move", game, () -> game.captureChance(0));
        C.badArgument("captureChance(4) when the game is over", over, () -> over.captureChance(4));
    }
}
