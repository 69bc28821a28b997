/** Promises 1 to 8: a new object, throwing and moving. */
final class TurnTest {
    private static final Checks C = new Checks();

    public static void main(String[] args) {
        newObject();
        worths();
        lostThrows();
        thirdGraceIsLost();
        rowOfGracesBreaks();
        wrongThrows();
        entering();
        goingOn();
        capturing();
        capturingWithAGrace();
        castlesBlock();
        castlesOfTwoPlayersBlock();
        ownTeamDoesNotBlock();
        safeSquaresShelter();
        castleAtTheCircuitsEnd();
        entryBlocked();
        lane();
        wrongMoves();
        wrongTimeForMovable();
        partnerMoves();
        partnerMovesWithinTheTurn();
        gameOver();
        gameOverByGrace();
        C.end("TurnTest");
    }

    private static void dueState(PachisiYard game, String what, int phase, int turn, int mover, int graces) {
        C.due(what + ": phase", game.phase(), phase);
        C.due(what + ": onTurn", game.onTurn(), turn);
        C.due(what + ": mover", game.mover(), mover);
        C.due(what + ": graces", game.graces(), graces);
    }

    private static void newObject() {
        PachisiYard game = new PachisiYard();
        dueState(game, "new", 0, 0, 0, 0);
        C.due("new: winner", game.winner(), -1);
        for (int player = 0; player < 4; player++) {
            C.due("new: home", game.home(player), 0);
            C.due("new: captures", game.captures(player), 0);
            for (int piece = 0; piece < 4; piece++) {
                C.due("new: position", game.position(player, piece), 0);
            }
        }
        game.throwShells(6);
        game.move(0);
        dueState(new PachisiYard(), "another new one", 0, 0, 0, 0);
        C.due("another new one: position", new PachisiYard().position(0, 0), 0);
    }

    private static void worths() {
        int[] worths = {25, 10, -2, -3, -4, -5, 6};
        for (int mouths = 0; mouths <= 6; mouths++) {
            C.due("first throw " + mouths, new PachisiYard().throwShells(mouths), worths[mouths]);
        }
        for (int mouths = 0; mouths <= 6; mouths++) {
            PachisiYard game = Scenes.played(C, "6>0");
            int worth = worths[mouths] < 0 ? -worths[mouths] : worths[mouths];
            C.due("throw " + mouths, game.throwShells(mouths), worth);
            C.due("moves by " + mouths, game.move(0), 1 + worth);
        }
    }

    private static void lostThrows() {
        PachisiYard game = new PachisiYard();
        for (int step = 0; step < 5; step++) {
            dueState(game, "step " + step, 0, step % 4, step % 4, 0);
            C.due("lost throw", game.throwShells(4), -4);
        }
        PachisiYard held = Scenes.entryHeld(C);
        C.due("lost grace", held.throwShells(0), -25);
        dueState(held, "after a lost grace", 0, 1, 1, 1);
        C.due("second lost grace", held.throwShells(1), -10);
        dueState(held, "after two lost graces", 0, 1, 1, 2);
        C.due("third lost grace", held.throwShells(6), -6);
        dueState(held, "after three lost graces", 0, 2, 2, 0);
        PachisiYard ended = Scenes.entryHeld(C);
        C.play(ended, "0 2");
        dueState(ended, "a lost throw after a lost grace", 0, 2, 2, 0);
    }

    private static void thirdGraceIsLost() {
        int[] worths = {25, 10, 0, 0, 0, 0, 6};
        for (int mouths : new int[] {0, 1, 6}) {
            PachisiYard game = Scenes.played(C, "0>0 6>0");
            C.due("third grace", game.throwShells(mouths), -worths[mouths]);
            dueState(game, "after it", 0, 1, 1, 0);
            C.due("no piece moved", game.position(0, 0), 7);
        }
        PachisiYard next = Scenes.played(C, "0>0 6>0 1 | 2 | 2 | 2 | 0>0 6>0");
        dueState(next, "the row starts anew with the turn", 0, 0, 0, 2);
        PachisiYard third = Scenes.played(C, "0>0 6>0 5>0");
        dueState(third, "a third throw that is no grace", 0, 1, 1, 0);
    }

    private static void rowOfGracesBreaks() {
        PachisiYard game = Scenes.fiveBehind(C);
        C.play(game, "6>1 6>2");
        dueState(game, "two graces", 0, 0, 0, 2);
        C.due("throw that is no grace", game.throwShells(5), 5);
        dueState(game, "the row is broken by the throw", 1, 0, 0, 0);
        C.due("capture", game.move(0), 121);
        dueState(game, "throws again, with no row", 0, 0, 0, 0);
        C.due("a new row", game.throwShells(1), 10);
        dueState(game, "one in a row, before the move too", 1, 0, 0, 1);
        game.move(0);
        C.play(game, "6>3");
        dueState(game, "two in a row", 0, 0, 0, 2);
        C.due("three in a row", game.throwShells(6), -6);
        dueState(game, "lost", 0, 1, 1, 0);
    }

    private static void wrongThrows() {
        PachisiYard game = new PachisiYard();
        for (int mouths : new int[] {-1, 7, Integer.MIN_VALUE, Integer.MAX_VALUE}) {
            C.badArgument("throwShells(" + mouths + ")", game, () -> game.throwShells(mouths));
        }
        game.throwShells(1);
        C.notNow("throw ahead of a move", game, () -> game.throwShells(2));
        C.notNow("grace ahead of a move", game, () -> game.throwShells(0));
        C.badArgument("wrong throw ahead of a move", game, () -> game.throwShells(7));
        C.due("the throw still stands", game.move(3), 1);
    }

    private static void entering() {
        for (int mouths : new int[] {0, 1, 6}) {
            for (int piece = 0; piece < 4; piece++) {
                PachisiYard game = new PachisiYard();
                game.throwShells(mouths);
                dueState(game, "thrown", 1, 0, 0, 1);
                C.due("movable", game.movable(), 15);
                C.due("enters on position 1", game.move(piece), 1);
                C.due("stands there", game.position(0, piece), 1);
                dueState(game, "a grace throws again", 0, 0, 0, 1);
            }
        }
    }

    private static void goingOn() {
        PachisiYard game = Scenes.played(C, "6>1");
        C.due("throw", game.throwShells(5), 5);
        C.due("only the piece on the circuit can move", game.movable(), 2);
        C.notNow("a piece in the yard", game, () -> game.move(0));
        C.due("moves", game.move(1), 6);
        dueState(game, "the turn goes on", 0, 1, 1, 0);
        C.play(game, "2 | 2 | 2");
        C.due("25", game.throwShells(0), 25);
        C.due("goes on or enters", game.movable(), 15);
        C.due("25 on", game.move(1), 31);
        C.play(game, "1>1");
        C.due("10 on", game.position(0, 1), 41);
    }

    private static void capturing() {
        PachisiYard game = Scenes.fiveBehind(C);
        C.due("throw", game.throwShells(5), 5);
        C.due("capture", game.move(0), 121);
        C.due("moved", game.position(0, 0), 21);
        C.due("sent to its yard", game.position(1, 0), 0);
        C.due("its square holds the capturer", game.standing(24, 0), 1);
        C.due("its square holds no other", game.standing(24, 1), 0);
        C.due("counted", game.captures(0), 1);
        dueState(game, "throws again", 0, 0, 0, 0);
        C.play(game, "2>0");
        dueState(game, "the turn goes on", 0, 1, 1, 0);
        for (int piece = 0; piece < 4; piece++) {
            PachisiYard any = Scenes.played(C, "6>3 1>3 5>3 | 6>P 3>P | 2 | 2 | 5>3".replace("P", "" + piece));
            C.due("any piece is captured", any.position(1, piece), 0);
            C.due("by any piece", any.position(0, 3), 21);
            C.due("counted", any.captures(0), 1);
        }
        PachisiYard shorter = Scenes.fiveBehind(C);
        shorter.throwShells(4);
        C.due("no capture short of the piece", shorter.move(0), 20);
        C.due("not captured", shorter.position(1, 0), 4);
        dueState(shorter, "no capture ends the turn", 0, 1, 1, 0);
    }

    private static void capturingWithAGrace() {
        PachisiYard ten = Scenes.tenBehind(C);
        C.due("ten", ten.throwShells(1), 10);
        C.due("captures by ten", ten.move(0), 121);
        dueState(ten, "one grace, throws again", 0, 0, 0, 1);
        C.due("counted", ten.captures(0), 1);
        PachisiYard six = Scenes.played(C, "6>0 1>0 4>0 | 6>0 3>0 | 2 | 2");
        C.due("six", six.throwShells(6), 6);
        C.due("captures by six", six.move(0), 121);
        dueState(six, "one grace, throws again", 0, 0, 0, 1);
        C.due("counted", six.captures(0), 1);
    }

    private static void castlesBlock() {
        int[] movable = {12, 14, 3, 3, 3, 2, 14};
        int[] worths = {25, 10, 2, 3, 4, 5, 6};
        for (int mouths = 0; mouths <= 6; mouths++) {
            PachisiYard game = Scenes.castleAhead(C);
            C.due("castle: throw " + mouths, game.throwShells(mouths), worths[mouths]);
            C.due("castle: movable by " + mouths, game.movable(), movable[mouths]);
        }
        PachisiYard game = Scenes.castleAhead(C);
        game.throwShells(5);
        C.notNow("coming to stand on the castle", game, () -> game.move(0));
        C.due("the other piece moves", game.move(1), 9);
        PachisiYard ahead = Scenes.played(C, "6>0 1>0 5>0 | 2 | 2 | 2 | 3>0 | 6>0 6>1 6 | 2 | 2");
        C.due("a castle behind", ahead.standing(21, 1), 2);
        C.due("just behind", ahead.square(0, 0), 22);
        C.due("does not block", ahead.throwShells(2), 2);
        C.due("goes on", ahead.move(0), 21);
    }

    private static void castlesOfTwoPlayersBlock() {
        for (int mouths = 2; mouths <= 5; mouths++) {
            PachisiYard game = Scenes.mixedCastle(C);
            C.due("castle of two players", game.throwShells(mouths), -mouths);
            dueState(game, "lost", 0, 1, 1, 0);
        }
        for (int mouths : new int[] {0, 1, 6}) {
            PachisiYard game = Scenes.mixedCastle(C);
            game.throwShells(mouths);
            C.due("only the yard's pieces move", game.movable(), 14);
        }
    }

    private static void ownTeamDoesNotBlock() {
        PachisiYard game = Scenes.ownCastle(C);
        game.throwShells(4);
        C.due("onto the partner's castle", game.move(0), 35);
        C.due("three of the team", game.standing(38, 0), 3);
        C.due("none captured", game.position(2, 0) + game.position(2, 3), 2);
        PachisiYard past = Scenes.ownCastle(C);
        past.throwShells(5);
        C.due("past the partner's castle", past.move(0), 36);
        PachisiYard onto = Scenes.played(C, "6>0 6>1 6 | 2 | 2 | 2 | 3>0 | 2 | 2 | 2");
        onto.throwShells(3);
        C.due("onto a single piece of one's own", onto.move(1), 4);
        C.due("no capture", onto.position(0, 0), 4);
        dueState(onto, "the turn goes on", 0, 1, 1, 0);
    }

    private static void safeSquaresShelter() {
        PachisiYard game = Scenes.safeAhead(C);
        C.due("a single piece on a safe square", game.throwShells(4), -4);
        C.due("stays there", game.position(1, 1), 1);
        PachisiYard past = Scenes.safeAhead(C);
        C.due("it can be passed", past.throwShells(5), 5);
        C.due("past it", past.move(0), 19);
        PachisiYard empty = Scenes.played(C, "6>0 5>0 | 2 | 2 | 2");
        empty.throwShells(2);
        C.due("an empty safe square", empty.move(0), 8);
        C.due("is safe", empty.isSafe(empty.square(0, 0)), true);
        PachisiYard own = Scenes.played(C, "6>0");
        own.throwShells(6);
        C.due("enters on a piece of one's own", own.move(1), 1);
        C.due("a castle", own.standing(4, 0), 2);
    }

    private static void castleAtTheCircuitsEnd() {
        PachisiYard game = Scenes.castleAtTheEnd(C);
        C.due("position", game.position(0, 0), 62);
        for (int mouths = 2; mouths <= 5; mouths++) {
            PachisiYard blocked = Scenes.castleAtTheEnd(C);
            C.due("the way to the lane is over the castle", blocked.throwShells(mouths), -mouths);
        }
        PachisiYard home = Scenes.castleAtTheEnd(C);
        home.throwShells(1);
        C.due("the way home too", home.movable(), 14);
    }

    private static void entryBlocked() {
        for (int mouths : new int[] {0, 1, 6}) {
            C.due("entry held by one", Scenes.entryHeld(C).throwShells(mouths) < 0, true);
            C.due("entry held by a castle", Scenes.entryCastle(C).throwShells(mouths) < 0, true);
        }
        C.due("one", Scenes.entryHeld(C).standing(21, 0), 1);
        C.due("two", Scenes.entryCastle(C).standing(21, 0), 2);
    }

    private static void lane() {
        PachisiYard game = Scenes.played(C, "0>0 0>0 5>0 | 2 | 2 | 2 | 0>0 5>0 | 2 | 2 | 2 | 3>0 | 2 | 2 | 2");
        C.due("the circuit's last position", game.position(0, 0), 64);
        C.due("the circuit's last square", game.square(0, 0), 67);
        PachisiYard lane = Scenes.played(C, "0>0 0>0 5>0 | 2 | 2 | 2 | 0>0 1>0 4>0 | 2 | 2 | 2");
        C.due("on the lane", lane.position(0, 0), 70);
        C.due("3 leads beyond 72", lane.throwShells(3), -3);
        C.play(lane, "2 | 2 | 2");
        C.due("10 leads beyond 72", lane.throwShells(1), 10);
        C.due("so only the yard's pieces move", lane.movable(), 14);
        lane.move(1);
        lane.throwShells(2);
        C.due("2 leads to 72", lane.movable(), 3);
        C.due("home", lane.move(0), 72);
        C.due("counted", lane.home(0), 1);
        C.play(lane, "2 | 2 | 2");
        lane.throwShells(2);
        C.due("a piece at home does not move", lane.movable(), 2);
        C.notNow("a piece at home", lane, () -> lane.move(0));
    }

    private static void wrongMoves() {
        PachisiYard game = new PachisiYard();
        for (int piece : new int[] {-1, 4, Integer.MIN_VALUE, Integer.MAX_VALUE}) {
            C.outOfBounds("move(" + piece + ") with no throw", game, () -> game.move(piece));
        }
        C.notNow("no throw", game, () -> game.move(0));
        game.throwShells(0);
        C.outOfBounds("no such piece", game, () -> game.move(4));
        C.outOfBounds("no such piece", game, () -> game.move(-1));
        game.move(0);
        C.notNow("the throw is used up", game, () -> game.move(0));
        game.throwShells(2);
        C.outOfBounds("no such piece by this throw", game, () -> game.move(4));
        C.notNow("cannot move by it", game, () -> game.move(1));
        C.due("another can", game.move(0), 3);
    }

    private static void wrongTimeForMovable() {
        PachisiYard game = new PachisiYard();
        C.notNow("movable with no throw", game, game::movable);
        C.play(game, "2");
        C.notNow("movable after a lost throw", game, game::movable);
        C.play(game, "6>0");
        C.notNow("movable after a move", game, game::movable);
    }

    private static void partnerMoves() {
        PachisiYard game = Scenes.playerZeroHome(C);
        C.due("all home", game.home(0), 4);
        dueState(game, "the next turn", 0, 1, 1, 0);
        C.play(game, "2 | 2 | 2");
        dueState(game, "throws for the partner", 0, 0, 2, 0);
        C.due("throw", game.throwShells(6), 6);
        dueState(game, "moves for the partner", 1, 0, 2, 1);
        C.due("the partner's pieces", game.movable(), 15);
        C.due("enters for the partner", game.move(3), 1);
        C.due("the partner's position", game.position(2, 3), 1);
        C.play(game, "3>3 | 2");
        dueState(game, "the partner's own turn", 0, 2, 2, 0);
        C.due("the same pieces", game.position(2, 3), 4);
        PachisiYard capture = Scenes.partnerFiveBehind(C);
        C.due("throw", capture.throwShells(5), 5);
        C.due("captures with the partner's piece", capture.move(0), 121);
        dueState(capture, "throws again", 0, 0, 2, 0);
        C.due("counts for the player whose turn it was", capture.captures(0), 1);
        C.due("not for the partner", capture.captures(2), 0);
        C.due("sent to its yard", capture.position(3, 0), 0);
    }

    private static void partnerMovesWithinTheTurn() {
        PachisiYard game = Scenes.lastSixAway(C);
        dueState(game, "own piece left", 0, 0, 0, 0);
        C.due("6", game.throwShells(6), 6);
        C.due("only the last piece", game.movable(), 8);
        C.due("home", game.move(3), 72);
        dueState(game, "throws again for the partner", 0, 0, 2, 1);
        C.due("5", game.throwShells(5), 5);
        C.due("the partner's piece", game.movable(), 1);
        C.due("captures", game.move(0), 121);
    }

    private static void gameOver() {
        for (int team = 0; team < 2; team++) {
            PachisiYard game = Scenes.lastPieceAtSeventy(C, team);
            dueState(game, "one move left", 0, team + 2, team + 2, 0);
            C.due("no winner yet", game.winner(), -1);
            C.due("2", game.throwShells(2), 2);
            C.due("no winner ahead of the move", game.winner(), -1);
            C.due("home", game.move(3), 72);
            dueState(game, "over", 2, team + 2, team, 0);
            C.due("winner", game.winner(), team);
            C.notNow("throw", game, () -> game.throwShells(2));
            C.notNow("grace", game, () -> game.throwShells(0));
            C.badArgument("wrong throw", game, () -> game.throwShells(-1));
            C.notNow("move", game, () -> game.move(0));
            C.outOfBounds("wrong move", game, () -> game.move(4));
            C.notNow("movable", game, game::movable);
        }
    }

    private static void gameOverByGrace() {
        PachisiYard game = Scenes.lastOfTheTeamSixAway(C);
        dueState(game, "player 0 throws for player 2", 0, 0, 2, 0);
        C.due("2 too few", game.position(2, 3), 66);
        game.throwShells(6);
        C.due("home by a grace", game.move(3), 72);
        C.due("over", game.phase(), 2);
        C.due("who moved last", game.onTurn(), 0);
        C.due("winner", game.winner(), 0);
        C.notNow("no throw again", game, () -> game.throwShells(2));
    }
}
