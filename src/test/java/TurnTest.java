/** Promises 1 to 8: a new object, throwing and moving. */
final class TurnTest {
    private static final Checks C = new Checks();
    private static final int[] NONE = {};
    private static final int[] ALL_HOME = {72, 72, 72, 72};

    public static void main(String[] args) {
        newObject();
        worths();
        lostThrows();
        thirdGraceIsLost();
        rowOfGracesBreaks();
        entering();
        goingOn();
        capturing();
        capturingWithAGrace();
        castlesBlock();
        castlesOfTwoPlayersBlock();
        ownTeamDoesNotBlock();
        safeSquaresShelter();
        castleAtTheCircuitsEnd();
        entryBlocked();
        lane();
        partnerMoves();
        partnerMovesWithinTheTurn();
        gameOver();
        gameOverByGrace();
        turnsGoRound();
        nonGracesEndTheTurn();
        anyThreeGraces();
        thirdGraceCapturesNothing();
        thirdGraceBringsNothingHome();
        rowEndsWithTheTurn();
        rowGoesOnAcrossACapture();
        captureAfterCapture();
        moverOfEachPlayer();
        threeHomeIsNotThrough();
        partnerEntersAndCaptures();
        overForEachPlayer();
        notOverAheadOfTheEighth();
        C.end("TurnTest");
    }

    private static void newObject() {
        PachisiYard game = new PachisiYard();
        C.dueState("new", game, 0, 0, 0, 0);
        C.due("new: winner", game.winner(), -1);
        for (int player = 0; player < 4; player++) {
            C.due("new: home", game.home(player), 0);
            C.due("new: captures", game.captures(player), 0);
            for (int piece = 0; piece < 4; piece++) {
                C.due("new: position", game.position(player, piece), 0);
            }
        }
        game.throwShells(6);
        game.move(0);
        C.dueState("another new one", new PachisiYard(), 0, 0, 0, 0);
        C.due("another new one: position", new PachisiYard().position(0, 0), 0);
    }

    private static void worths() {
        int[] worths = {25, 10, -2, -3, -4, -5, 6};
        for (int mouths = 0; mouths <= 6; mouths++) {
            C.due("first throw " + mouths, new PachisiYard().throwShells(mouths), worths[mouths]);
        }
        for (int mouths = 0; mouths <= 6; mouths++) {
            PachisiYard game = Scenes.played(C, "6>0");
            int worth = worths[mouths] < 0 ? -worths[mouths] : worths[mouths];
            C.due("throw " + mouths, game.throwShells(mouths), worth);
            C.due("moves by " + mouths, game.move(0), 1 + worth);
        }
    }

    private static void lostThrows() {
        PachisiYard game = new PachisiYard();
        for (int step = 0; step < 5; step++) {
            C.dueState("step " + step, game, 0, step % 4, step % 4, 0);
            C.due("lost throw", game.throwShells(4), -4);
        }
        PachisiYard held = Scenes.entryHeld(C);
        C.due("lost grace", held.throwShells(0), -25);
        C.dueState("after a lost grace", held, 0, 1, 1, 1);
        C.due("second lost grace", held.throwShells(1), -10);
        C.dueState("after two lost graces", held, 0, 1, 1, 2);
        C.due("third lost grace", held.throwShells(6), -6);
        C.dueState("after three lost graces", held, 0, 2, 2, 0);
        PachisiYard ended = Scenes.entryHeld(C);
        C.play(ended, "0 2");
        C.dueState("a lost throw after a lost grace", ended, 0, 2, 2, 0);
    }

    private static void thirdGraceIsLost() {
        int[] worths = {25, 10, 0, 0, 0, 0, 6};
        for (int mouths : new int[] {0, 1, 6}) {
            PachisiYard game = Scenes.played(C, "0>0 6>0");
            C.due("third grace", game.throwShells(mouths), -worths[mouths]);
            C.dueState("after it", game, 0, 1, 1, 0);
            C.due("no piece moved", game.position(0, 0), 7);
        }
        PachisiYard next = Scenes.played(C, "0>0 6>0 1 | 2 | 2 | 2 | 0>0 6>0");
        C.dueState("the row starts anew with the turn", next, 0, 0, 0, 2);
        PachisiYard third = Scenes.played(C, "0>0 6>0 5>0");
        C.dueState("a third throw that is no grace", third, 0, 1, 1, 0);
    }

    private static void rowOfGracesBreaks() {
        PachisiYard game = Scenes.fiveBehind(C);
        C.play(game, "6>1 6>2");
        C.dueState("two graces", game, 0, 0, 0, 2);
        C.due("throw that is no grace", game.throwShells(5), 5);
        C.dueState("the row is broken by the throw", game, 1, 0, 0, 0);
        C.due("capture", game.move(0), 121);
        C.dueState("throws again, with no row", game, 0, 0, 0, 0);
        C.due("a new row", game.throwShells(1), 10);
        C.dueState("one in a row, before the move too", game, 1, 0, 0, 1);
        game.move(0);
        C.play(game, "6>3");
        C.dueState("two in a row", game, 0, 0, 0, 2);
        C.due("three in a row", game.throwShells(6), -6);
        C.dueState("lost", game, 0, 1, 1, 0);
    }

    private static void entering() {
        for (int mouths : new int[] {0, 1, 6}) {
            for (int piece = 0; piece < 4; piece++) {
                PachisiYard game = new PachisiYard();
                game.throwShells(mouths);
                C.dueState("thrown", game, 1, 0, 0, 1);
                C.due("movable", game.movable(), 15);
                C.due("enters on position 1", game.move(piece), 1);
                C.due("stands there", game.position(0, piece), 1);
                C.dueState("a grace throws again", game, 0, 0, 0, 1);
            }
        }
    }

    private static void goingOn() {
        PachisiYard game = Scenes.played(C, "6>1");
        C.due("throw", game.throwShells(5), 5);
        C.due("only the piece on the circuit can move", game.movable(), 2);
        C.due("moves", game.move(1), 6);
        C.dueState("the turn goes on", game, 0, 1, 1, 0);
        C.play(game, "2 | 2 | 2");
        C.due("25", game.throwShells(0), 25);
        C.due("goes on or enters", game.movable(), 15);
        C.due("25 on", game.move(1), 31);
        C.play(game, "1>1");
        C.due("10 on", game.position(0, 1), 41);
    }

    private static void capturing() {
        PachisiYard game = Scenes.fiveBehind(C);
        C.due("throw", game.throwShells(5), 5);
        C.due("capture", game.move(0), 121);
        C.due("moved", game.position(0, 0), 21);
        C.due("sent to its yard", game.position(1, 0), 0);
        C.due("its square holds the capturer", game.standing(24, 0), 1);
        C.due("its square holds no other", game.standing(24, 1), 0);
        C.due("counted", game.captures(0), 1);
        C.dueState("throws again", game, 0, 0, 0, 0);
        C.play(game, "2>0");
        C.dueState("the turn goes on", game, 0, 1, 1, 0);
        for (int piece = 0; piece < 4; piece++) {
            PachisiYard any = Scenes.played(C, "6>3 1>3 5>3 | 6>P 3>P | 2 | 2 | 5>3".replace("P", "" + piece));
            C.due("any piece is captured", any.position(1, piece), 0);
            C.due("by any piece", any.position(0, 3), 21);
            C.due("counted", any.captures(0), 1);
        }
        PachisiYard shorter = Scenes.fiveBehind(C);
        shorter.throwShells(4);
        C.due("no capture short of the piece", shorter.move(0), 20);
        C.due("not captured", shorter.position(1, 0), 4);
        C.dueState("no capture ends the turn", shorter, 0, 1, 1, 0);
    }

    private static void capturingWithAGrace() {
        PachisiYard ten = Scenes.tenBehind(C);
        C.due("ten", ten.throwShells(1), 10);
        C.due("captures by ten", ten.move(0), 121);
        C.dueState("one grace, throws again", ten, 0, 0, 0, 1);
        C.due("counted", ten.captures(0), 1);
        PachisiYard six = Scenes.played(C, "6>0 1>0 4>0 | 6>0 3>0 | 2 | 2");
        C.due("six", six.throwShells(6), 6);
        C.due("captures by six", six.move(0), 121);
        C.dueState("one grace, throws again", six, 0, 0, 0, 1);
        C.due("counted", six.captures(0), 1);
    }

    private static void castlesBlock() {
        int[] movable = {12, 14, 3, 3, 3, 2, 14};
        int[] worths = {25, 10, 2, 3, 4, 5, 6};
        for (int mouths = 0; mouths <= 6; mouths++) {
            PachisiYard game = Scenes.castleAhead(C);
            C.due("castle: throw " + mouths, game.throwShells(mouths), worths[mouths]);
            C.due("castle: movable by " + mouths, game.movable(), movable[mouths]);
        }
        PachisiYard game = Scenes.castleAhead(C);
        game.throwShells(5);
        C.due("the other piece moves", game.move(1), 9);
        PachisiYard ahead = Scenes.played(C, "6>0 1>0 5>0 | 2 | 2 | 2 | 3>0 | 6>0 6>1 6 | 2 | 2");
        C.due("a castle behind", ahead.standing(21, 1), 2);
        C.due("just behind", ahead.square(0, 0), 22);
        C.due("does not block", ahead.throwShells(2), 2);
        C.due("goes on", ahead.move(0), 21);
    }

    private static void castlesOfTwoPlayersBlock() {
        for (int mouths = 2; mouths <= 5; mouths++) {
            PachisiYard game = Scenes.mixedCastle(C);
            C.due("castle of two players", game.throwShells(mouths), -mouths);
            C.dueState("lost", game, 0, 1, 1, 0);
        }
        for (int mouths : new int[] {0, 1, 6}) {
            PachisiYard game = Scenes.mixedCastle(C);
            game.throwShells(mouths);
            C.due("only the yard's pieces move", game.movable(), 14);
        }
    }

    private static void ownTeamDoesNotBlock() {
        PachisiYard game = Scenes.ownCastle(C);
        game.throwShells(4);
        C.due("onto the partner's castle", game.move(0), 35);
        C.due("three of the team", game.standing(38, 0), 3);
        C.due("none captured", game.position(2, 0) + game.position(2, 3), 2);
        PachisiYard past = Scenes.ownCastle(C);
        past.throwShells(5);
        C.due("past the partner's castle", past.move(0), 36);
        PachisiYard onto = Scenes.played(C, "6>0 6>1 6 | 2 | 2 | 2 | 3>0 | 2 | 2 | 2");
        onto.throwShells(3);
        C.due("onto a single piece of one's own", onto.move(1), 4);
        C.due("no capture", onto.position(0, 0), 4);
        C.dueState("the turn goes on", onto, 0, 1, 1, 0);
    }

    private static void safeSquaresShelter() {
        PachisiYard game = Scenes.safeAhead(C);
        C.due("a single piece on a safe square", game.throwShells(4), -4);
        C.due("stays there", game.position(1, 1), 1);
        PachisiYard past = Scenes.safeAhead(C);
        C.due("it can be passed", past.throwShells(5), 5);
        C.due("past it", past.move(0), 19);
        PachisiYard empty = Scenes.played(C, "6>0 5>0 | 2 | 2 | 2");
        empty.throwShells(2);
        C.due("an empty safe square", empty.move(0), 8);
        C.due("is safe", empty.isSafe(empty.square(0, 0)), true);
        PachisiYard own = Scenes.played(C, "6>0");
        own.throwShells(6);
        C.due("enters on a piece of one's own", own.move(1), 1);
        C.due("a castle", own.standing(4, 0), 2);
    }

    private static void castleAtTheCircuitsEnd() {
        PachisiYard game = Scenes.castleAtTheEnd(C);
        C.due("position", game.position(0, 0), 62);
        for (int mouths = 2; mouths <= 5; mouths++) {
            PachisiYard blocked = Scenes.castleAtTheEnd(C);
            C.due("the way to the lane is over the castle", blocked.throwShells(mouths), -mouths);
        }
        PachisiYard home = Scenes.castleAtTheEnd(C);
        home.throwShells(1);
        C.due("the way home too", home.movable(), 14);
    }

    private static void entryBlocked() {
        for (int mouths : new int[] {0, 1, 6}) {
            C.due("entry held by one", Scenes.entryHeld(C).throwShells(mouths) < 0, true);
            C.due("entry held by a castle", Scenes.entryCastle(C).throwShells(mouths) < 0, true);
        }
        C.due("one", Scenes.entryHeld(C).standing(21, 0), 1);
        C.due("two", Scenes.entryCastle(C).standing(21, 0), 2);
    }

    private static void lane() {
        PachisiYard game = Scenes.played(C, "0>0 0>0 5>0 | 2 | 2 | 2 | 0>0 5>0 | 2 | 2 | 2 | 3>0 | 2 | 2 | 2");
        C.due("the circuit's last position", game.position(0, 0), 64);
        C.due("the circuit's last square", game.square(0, 0), 67);
        PachisiYard lane = Scenes.played(C, "0>0 0>0 5>0 | 2 | 2 | 2 | 0>0 1>0 4>0 | 2 | 2 | 2");
        C.due("on the lane", lane.position(0, 0), 70);
        C.due("3 leads beyond 72", lane.throwShells(3), -3);
        C.play(lane, "2 | 2 | 2");
        C.due("10 leads beyond 72", lane.throwShells(1), 10);
        C.due("so only the yard's pieces move", lane.movable(), 14);
        lane.move(1);
        lane.throwShells(2);
        C.due("2 leads to 72", lane.movable(), 3);
        C.due("home", lane.move(0), 72);
        C.due("counted", lane.home(0), 1);
        C.play(lane, "2 | 2 | 2");
        lane.throwShells(2);
        C.due("a piece at home does not move", lane.movable(), 2);
    }

    private static void partnerMoves() {
        PachisiYard game = Scenes.playerZeroHome(C);
        C.due("all home", game.home(0), 4);
        C.dueState("the next turn", game, 0, 1, 1, 0);
        C.play(game, "2 | 2 | 2");
        C.dueState("throws for the partner", game, 0, 0, 2, 0);
        C.due("throw", game.throwShells(6), 6);
        C.dueState("moves for the partner", game, 1, 0, 2, 1);
        C.due("the partner's pieces", game.movable(), 15);
        C.due("enters for the partner", game.move(3), 1);
        C.due("the partner's position", game.position(2, 3), 1);
        C.play(game, "3>3 | 2");
        C.dueState("the partner's own turn", game, 0, 2, 2, 0);
        C.due("the same pieces", game.position(2, 3), 4);
        PachisiYard capture = Scenes.partnerFiveBehind(C);
        C.due("throw", capture.throwShells(5), 5);
        C.due("captures with the partner's piece", capture.move(0), 121);
        C.dueState("throws again", capture, 0, 0, 2, 0);
        C.due("counts for the player whose turn it was", capture.captures(0), 1);
        C.due("not for the partner", capture.captures(2), 0);
        C.due("sent to its yard", capture.position(3, 0), 0);
    }

    private static void partnerMovesWithinTheTurn() {
        PachisiYard game = Scenes.lastSixAway(C);
        C.dueState("own piece left", game, 0, 0, 0, 0);
        C.due("6", game.throwShells(6), 6);
        C.due("only the last piece", game.movable(), 8);
        C.due("home", game.move(3), 72);
        C.dueState("throws again for the partner", game, 0, 0, 2, 1);
        C.due("5", game.throwShells(5), 5);
        C.due("the partner's piece", game.movable(), 1);
        C.due("captures", game.move(0), 121);
    }

    private static void gameOver() {
        for (int team = 0; team < 2; team++) {
            PachisiYard game = Scenes.lastPieceAtSeventy(C, team);
            C.dueState("one move left", game, 0, team + 2, team + 2, 0);
            C.due("no winner yet", game.winner(), -1);
            C.due("2", game.throwShells(2), 2);
            C.due("no winner ahead of the move", game.winner(), -1);
            C.due("home", game.move(3), 72);
            C.dueState("over", game, 2, team + 2, team, 0);
            C.due("winner", game.winner(), team);
        }
    }

    private static void gameOverByGrace() {
        PachisiYard game = Scenes.lastOfTheTeamSixAway(C);
        C.dueState("player 0 throws for player 2", game, 0, 0, 2, 0);
        C.due("2 too few", game.position(2, 3), 66);
        game.throwShells(6);
        C.due("home by a grace", game.move(3), 72);
        C.due("over", game.phase(), 2);
        C.due("who moved last", game.onTurn(), 0);
        C.due("winner", game.winner(), 0);
    }

    private static PachisiYard placed(int player, int[] own, int[] next, int[] partner, int[] last) {
        return Scenes.placed(C, player, Scenes.seenBy(player, own, next, partner, last));
    }

    // "then come the players 1, 2, 3, 0 and so on", whatever ends the turn.
    private static void turnsGoRound() {
        for (int player = 0; player < 4; player++) {
            int next = player == 3 ? 0 : player + 1;
            PachisiYard lost = placed(player, NONE, NONE, NONE, NONE);
            C.dueState("ahead of a lost throw", lost, 0, player, player, 0);
            lost.throwShells(5);
            C.dueState("behind a lost throw", lost, 0, next, next, 0);
            PachisiYard moved = placed(player, new int[] {20}, NONE, NONE, NONE);
            C.play(moved, "2>0");
            C.dueState("behind a move", moved, 0, next, next, 0);
            PachisiYard graces = placed(player, new int[] {20}, NONE, NONE, NONE);
            C.play(graces, "6>0 1>0 0");
            C.dueState("behind a third grace", graces, 0, next, next, 0);
            C.play(graces, "3 | 3 | 3");
            C.dueState("round again", graces, 0, player, player, 0);
        }
    }

    // "A throw with no, one or six mouths up is a grace", and no other one.
    private static void nonGracesEndTheTurn() {
        for (int mouths = 0; mouths <= 6; mouths++) {
            boolean grace = mouths <= 1 || mouths == 6;
            PachisiYard game = placed(0, new int[] {20}, NONE, NONE, NONE);
            game.throwShells(mouths);
            C.dueState("thrown " + mouths, game, 1, 0, 0, grace ? 1 : 0);
            game.move(0);
            C.dueState("moved by " + mouths, game, 0, grace ? 0 : 1, grace ? 0 : 1, grace ? 1 : 0);
        }
    }

    // "But the third grace in a row within a turn is lost, and the turn goes to the next player."
    private static void anyThreeGraces() {
        int[] graces = {0, 1, 6};
        int[] worths = {25, 10, 6};
        for (int k = 0; k < 27; k++) {
            PachisiYard game = new PachisiYard();
            C.due("first", game.throwShells(graces[k / 9]), worths[k / 9]);
            C.due("enters", game.move(0), 1);
            C.dueState("one grace", game, 0, 0, 0, 1);
            C.due("second", game.throwShells(graces[k / 3 % 3]), worths[k / 3 % 3]);
            C.due("goes on", game.move(0), 1 + worths[k / 3 % 3]);
            C.dueState("two graces", game, 0, 0, 0, 2);
            C.due("third", game.throwShells(graces[k % 3]), -worths[k % 3]);
            C.dueState("three graces", game, 0, 1, 1, 0);
            C.due("has not moved", game.position(0, 0), 1 + worths[k / 3 % 3]);
        }
    }

    private static void thirdGraceCapturesNothing() {
        for (int player = 0; player < 4; player++) {
            int other = (player + 1) % 4;
            PachisiYard game = placed(player, new int[] {20}, new int[] {9}, NONE, NONE);
            C.due("six behind", game.threat(other, 0, player), 1);
            C.play(game, "6>1 6>2 6");
            C.due("not captured", game.position(other, 0), 9);
            C.due("none counted", game.captures(player), 0);
            C.due("has not moved", game.position(player, 0), 20);
            C.dueState("the next turn", game, 0, other, other, 0);
        }
    }

    private static void thirdGraceBringsNothingHome() {
        PachisiYard one = placed(0, new int[] {66}, NONE, NONE, NONE);
        C.play(one, "6>1 1>1 6");
        C.due("not home", one.home(0), 0);
        PachisiYard last = placed(0, new int[] {72, 72, 72, 66}, NONE, new int[] {72, 72, 72, 72}, NONE);
        C.play(last, "0 1");
        C.dueState("two lost graces", last, 0, 0, 0, 2);
        C.due("third", last.throwShells(6), -6);
        C.dueState("not over", last, 0, 1, 1, 0);
        C.due("no winner", last.winner(), -1);
        PachisiYard second = placed(0, new int[] {72, 72, 72, 66}, NONE, new int[] {72, 72, 72, 72}, NONE);
        C.play(second, "0 6>3");
        C.due("over by the second grace", second.winner(), 0);
    }

    // "within a turn": two graces do not count for the next turn of the same player.
    private static void rowEndsWithTheTurn() {
        for (int player = 0; player < 4; player++) {
            PachisiYard game = placed(player, new int[] {10}, NONE, NONE, NONE);
            C.play(game, "6>0 6>0 2>0 | 2 | 2 | 2");
            C.dueState("a new turn", game, 0, player, player, 0);
            C.play(game, "6>0 6>0");
            C.dueState("two graces again", game, 0, player, player, 2);
        }
    }

    // "in a row": a capture gives another throw, but breaks the row only if its throw was no grace.
    private static void rowGoesOnAcrossACapture() {
        PachisiYard game = placed(0, new int[] {20}, new int[] {9}, NONE, NONE);
        C.due("six", game.throwShells(6), 6);
        C.due("captures by a grace", game.move(0), 126);
        C.dueState("one throw again, not two", game, 0, 0, 0, 1);
        C.play(game, "6>1");
        C.dueState("two graces", game, 0, 0, 0, 2);
        C.due("the third grace", game.throwShells(0), -25);
        C.dueState("lost", game, 0, 1, 1, 0);
        PachisiYard second = placed(0, new int[] {20}, new int[] {9}, NONE, NONE);
        C.play(second, "0>1 6>0");
        C.due("captured by the second grace", second.captures(0), 1);
        C.dueState("two graces", second, 0, 0, 0, 2);
        C.play(second, "6");
        C.dueState("the third is lost", second, 0, 1, 1, 0);
    }

    // "or a piece was captured with it, the player whose turn it is throws again", as often as that is so.
    private static void captureAfterCapture() {
        for (int player = 0; player < 4; player++) {
            PachisiYard game = placed(player, new int[] {20}, new int[] {6, 10, 12}, NONE, NONE);
            int[] mouths = {3, 4, 2};
            int position = 20;
            for (int k = 0; k < 3; k++) {
                game.throwShells(mouths[k]);
                position += mouths[k];
                C.due("captures", game.move(0), 100 + position);
                C.due("counted", game.captures(player), k + 1);
                C.dueState("throws again", game, 0, player, player, 0);
            }
            C.play(game, "5>0");
            C.dueState("ends", game, 0, (player + 1) % 4, (player + 1) % 4, 0);
        }
    }

    // "The mover is the player whose turn it is, or, if all four pieces of that player are home, the partner."
    private static void moverOfEachPlayer() {
        for (int player = 0; player < 4; player++) {
            PachisiYard game = placed(player, ALL_HOME, NONE, NONE, NONE);
            C.dueState("all home", game, 0, player, (player + 2) % 4, 0);
            C.play(game, "2");
            for (int k = 1; k < 4; k++) {
                int other = (player + k) % 4;
                C.dueState("not home", game, 0, other, other, 0);
                C.play(game, "2");
            }
            C.dueState("all home, again", game, 0, player, (player + 2) % 4, 0);
        }
    }

    private static void threeHomeIsNotThrough() {
        for (int player = 0; player < 4; player++) {
            PachisiYard game = placed(player, new int[] {72, 72, 72, 71}, NONE, new int[] {20}, NONE);
            C.dueState("three home", game, 0, player, player, 0);
            C.due("no way to move", game.ways(0), 0);
            C.due("lost", game.throwShells(2), -2);
            C.due("the partner's piece stays", game.position((player + 2) % 4, 0), 20);
        }
    }

    private static void partnerEntersAndCaptures() {
        for (int player = 0; player < 4; player++) {
            int partner = (player + 2) % 4;
            PachisiYard game = placed(player, ALL_HOME, NONE, NONE, NONE);
            game.throwShells(0);
            C.dueState("a grace for the partner", game, 1, player, partner, 1);
            C.due("all four of the partner", game.movable(), 15);
            C.due("enters", game.move(3), 1);
            C.due("the partner's piece", game.position(partner, 3), 1);
            C.due("one's own piece", game.position(player, 3), 72);
            PachisiYard captor = placed(player, ALL_HOME, new int[] {40}, new int[] {20}, NONE);
            C.due("the partner's way", captor.threat((player + 1) % 4, 0, player), 20);
            captor.throwShells(3);
            C.due("captures", captor.move(0), 123);
            C.dueState("throws again", captor, 0, player, partner, 0);
            C.due("counts for the player whose turn it was", captor.captures(player), 1);
            C.due("not for the partner", captor.captures(partner), 0);
            C.due("in its yard", captor.position((player + 1) % 4, 0), 0);
        }
    }

    // "The game is over when all eight pieces of a team are home; the turn does not go on then."
    private static void overForEachPlayer() {
        for (int player = 0; player < 4; player++) {
            dueOver(placed(player, new int[] {72, 72, 72, 70}, NONE, ALL_HOME, NONE), player, 2, 0);
            dueOver(placed(player, ALL_HOME, NONE, new int[] {72, 72, 72, 70}, NONE), player, 2, 0);
            dueOver(placed(player, new int[] {72, 72, 72, 66}, NONE, ALL_HOME, NONE), player, 6, 1);
            dueOver(placed(player, ALL_HOME, NONE, new int[] {72, 72, 72, 66}, NONE), player, 6, 1);
        }
    }

    private static void dueOver(PachisiYard game, int player, int mouths, int graces) {
        C.due("no winner yet", game.winner(), -1);
        C.due("some way to go", game.distance(player % 2) > 0, true);
        C.due("thrown", game.throwShells(mouths), mouths);
        C.due("no winner ahead of the move", game.winner(), -1);
        C.dueState("ahead of the move", game, 1, player, game.mover(), graces);
        C.due("home", game.move(3), 72);
        C.dueState("over", game, 2, player, (player + 2) % 4, graces);
        C.due("winner", game.winner(), player % 2);
        C.due("no way to go", game.distance(player % 2), 0);
        C.due("all the way for the others", game.distance(1 - player % 2), 576);
    }

    private static void notOverAheadOfTheEighth() {
        for (int player = 0; player < 4; player++) {
            PachisiYard seven = placed(player, new int[] {72, 72, 70, 69}, NONE, ALL_HOME, NONE);
            C.play(seven, "2>2");
            C.dueState("seven home", seven, 0, (player + 1) % 4, (player + 1) % 4, 0);
            C.due("no winner", seven.winner(), -1);
            PachisiYard eight = placed(player, new int[] {72, 72, 72, 70}, ALL_HOME, NONE, NONE);
            C.play(eight, "2>3");
            int next = (player + 1) % 4;
            C.dueState("eight home, of both teams", eight, 0, next, (next + 2) % 4, 0);
            C.due("no winner", eight.winner(), -1);
        }
    }
}
