/** Promises 17 to 19: chances. */
final class ChanceTest {
    private static final Checks C = new Checks();
    private static final int[] NONE = {};
    private static final int[] ALL_HOME = {72, 72, 72, 72};
    // Of the 64 ways, those of the throw that is worth its index.
    private static final int[] WAYS_BY_WORTH =
            {0, 0, 15, 20, 15, 6, 1, 0, 0, 0, 6, 0, 0, 0, 0, 0, 0, 0, 0, 0, 0, 0, 0, 0, 0, 1, 0, 0};

    public static void main(String[] args) {
        waysOfANewGame();
        waysToMoveAndEnter();
        waysToCapture();
        waysToBringHome();
        waysWithTwoGraces();
        waysForThePartner();
        threats();
        threatsByCastlesAndSafeSquares();
        threatsWithNoGracesAhead();
        threatsByThePartner();
        chances();
        chancesWithGracesAhead();
        chancesAcrossThePartner();
        chancesLeaveTheBoard();
        threatByDistance();
        threatByEachPiece();
        threatByOthersIsNotCounted();
        waysAddUp();
        mostWays();
        everyThrowCaptures();
        fifteenBehind();
        forcedPast();
        lostGracesAhead();
        nothingLeftToDo();
        C.end("ChanceTest");
    }

    private static void dueWays(String what, PachisiYard game, int move, int capture, int home, int enter) {
        C.due(what + ": ways to move", game.ways(0), move);
        C.due(what + ": ways to capture", game.ways(1), capture);
        C.due(what + ": ways to bring home", game.ways(2), home);
        C.due(what + ": ways to enter", game.ways(3), enter);
    }

    private static void dueChances(String what, PachisiYard game, int one, int two, int three) {
        C.due(what + ": captureChance(1)", game.captureChance(1), one);
        C.due(what + ": ways(1)", game.ways(1), one);
        C.due(what + ": captureChance(2)", game.captureChance(2), two);
        C.due(what + ": captureChance(3)", game.captureChance(3), three);
    }

    private static void waysOfANewGame() {
        dueWays("new", new PachisiYard(), 8, 0, 0, 8);
    }

    private static void waysToMoveAndEnter() {
        dueWays("one entered", Scenes.played(C, "6>0"), 64, 0, 0, 8);
        dueWays("entry held", Scenes.entryHeld(C), 0, 0, 0, 0);
        dueWays("entry castle", Scenes.entryCastle(C), 0, 0, 0, 0);
        dueWays("castle two squares ahead", Scenes.mixedCastle(C), 8, 0, 0, 8);
        dueWays("safe piece four ahead", Scenes.safeAhead(C), 49, 0, 0, 8);
    }

    private static void waysToCapture() {
        dueWays("five behind", Scenes.fiveBehind(C), 64, 6, 0, 8);
        dueWays("six behind", Scenes.played(C, "6>0 1>0 4>0 | 6>0 3>0 | 2 | 2"), 64, 1, 0, 8);
        dueWays("four and six behind", Scenes.played(C,
                "1>0 1>0 2>0 | 1>2 0>0 2>0 | 4 | 5 | 3>0 | 4>2 | 4 | 2"), 64, 16, 0, 8);
        dueWays("behind a castle", Scenes.shielded(C), 8, 0, 0, 8);
    }

    private static void waysToBringHome() {
        PachisiYard two = Scenes.played(C, "0>0 0>0 5>0 | 2 | 2 | 2 | 0>0 1>0 4>0 | 2 | 2 | 2");
        dueWays("two away", two, 23, 0, 15, 8);
        PachisiYard last = Scenes.lastPieceAtSeventy(C, 1);
        dueWays("the last one two away", last, 15, 0, 15, 0);
        PachisiYard six = Scenes.lastSixAway(C);
        dueWays("six away", six, 57, 0, 1, 0);
    }

    private static void waysWithTwoGraces() {
        dueWays("a grace", Scenes.played(C, "6>0"), 64, 0, 0, 8);
        dueWays("two graces", Scenes.played(C, "6>0 6>0"), 56, 0, 0, 0);
        PachisiYard six = Scenes.played(C, "6>0 1>0 4>0 | 6>0 3>0 | 2 | 2 | 6>1 6>2");
        dueWays("six behind, two graces", six, 56, 0, 0, 0);
        PachisiYard five = Scenes.fiveBehind(C);
        C.play(five, "6>1 6>2");
        dueWays("five behind, two graces", five, 56, 6, 0, 0);
        PachisiYard held = Scenes.entryHeld(C);
        C.play(held, "0 0");
        dueWays("two lost graces", held, 0, 0, 0, 0);
    }

    private static void waysForThePartner() {
        dueWays("the partner's pieces", Scenes.partnerFiveBehind(C), 64, 6, 0, 8);
    }

    private static void threats() {
        PachisiYard game = Scenes.fiveBehind(C);
        C.due("five behind", game.threat(1, 0, 0), 6);
        C.due("no piece of player 2", game.threat(1, 0, 2), 0);
        C.due("in the yard", game.threat(1, 1, 0), 0);
        C.due("ahead of the other", game.threat(0, 0, 1), 0);
        C.due("no piece of player 3", game.threat(0, 0, 3), 0);
        game.throwShells(2);
        C.due("asked ahead of a move", game.threat(1, 0, 0), 6);
        PachisiYard two = Scenes.played(C, "1>0 1>0 2>0 | 1>2 0>0 2>0 | 4 | 5 | 3>0 | 4>2 | 4 | 2");
        C.due("this piece alone, four ahead", two.threat(1, 0, 0), 15);
        C.due("this piece alone, six ahead", two.threat(1, 2, 0), 1);
        PachisiYard far = Scenes.played(C, "2 | 6>0 5>0 | 0>0 2>0 | 2 | 2 | 2>0");
        C.due("ten and more behind", far.square(2, 0) - far.square(1, 0), 12);
        C.due("out of reach", far.threat(2, 0, 1), 0);
        PachisiYard ten = Scenes.tenBehind(C);
        C.due("ten behind", ten.threat(1, 0, 0), 6);
        PachisiYard most = Scenes.played(C, "6>0 5>0 | 6>0 1>0 3>0 | 2 | 2");
        C.due("25 behind", most.threat(1, 0, 0), 1);
        PachisiYard lane = Scenes.played(C, "0>0 0>0 5>0 | 2 | 2 | 2 | 0>0 1>0 4>0");
        C.due("on the lane", lane.threat(0, 0, 1), 0);
        PachisiYard over = Scenes.lastPieceAtSeventy(C, 0);
        C.play(over, "2>3");
        C.due("a piece at home", over.threat(0, 0, 1), 0);
        C.due("by a team at home", over.threat(1, 0, 2), 0);
    }

    private static void threatsByCastlesAndSafeSquares() {
        PachisiYard castle = Scenes.castleAhead(C);
        C.due("in a castle", castle.threat(1, 0, 0), 0);
        C.due("in a castle, the other piece", castle.threat(1, 1, 0), 0);
        C.due("behind a castle", Scenes.shielded(C).threat(1, 2, 0), 0);
        C.due("behind a castle of two players", Scenes.mixedCastle(C).threat(1, 0, 0), 0);
        PachisiYard safe = Scenes.safeAhead(C);
        C.due("on a safe square", safe.threat(1, 1, 0), 0);
        C.due("where the other one enters", Scenes.entryHeld(C).threat(0, 0, 1), 0);
    }

    private static void threatsWithNoGracesAhead() {
        PachisiYard game = Scenes.played(C, "6>0 1>0 4>0 | 6>0 3>0 | 2 | 2 | 6>1 6>2");
        C.due("two graces", game.graces(), 2);
        C.due("six behind, as if with no graces", game.threat(1, 0, 0), 1);
        C.due("and no way to capture now", game.ways(1), 0);
    }

    private static void threatsByThePartner() {
        PachisiYard game = Scenes.partnerFiveBehind(C);
        C.due("by the partner", game.threat(3, 0, 2), 6);
        C.due("by the player who is through", game.threat(3, 0, 0), 6);
        PachisiYard six = Scenes.lastSixAway(C);
        C.due("by the partner", six.threat(3, 0, 2), 6);
        C.due("by a player not yet through", six.threat(3, 0, 0), 0);
    }

    private static void chances() {
        dueChances("new", new PachisiYard(), 0, 0, 0);
        // 5 captures at once; a grace that enters a piece leaves the 5 for the next throw: 6 * 64 + 8 * 6, and so on.
        dueChances("five behind", Scenes.fiveBehind(C), 6, 432, 28032);
        dueChances("a castle", Scenes.shielded(C), 0, 0, 0);
        // 10 and then 5; with three throws another grace may go ahead or between, at best to enter a piece.
        dueChances("15 behind", Scenes.played(C, "6>0 5>0 | 6>0 3>0 | 2 | 2"), 0, 36, 2664);
    }

    private static void chancesWithGracesAhead() {
        PachisiYard one = Scenes.fiveBehind(C);
        C.play(one, "6>1");
        // The piece on position 1 or those in the yard take the second grace; a third one is lost.
        dueChances("one grace ahead", one, 6, 432, 27648);
        PachisiYard two = Scenes.fiveBehind(C);
        C.play(two, "6>1 6>2");
        dueChances("two graces ahead", two, 6, 384, 24576);
        PachisiYard held = Scenes.entryHeld(C);
        C.play(held, "0");
        dueChances("lost graces", held, 0, 0, 0);
    }

    private static void chancesAcrossThePartner() {
        dueChances("for the partner", Scenes.partnerFiveBehind(C), 6, 432, 28032);
        // Only a 6 brings the last piece home, and then the partner's 5 captures; 25 and 10 are lost, but throw again.
        dueChances("the last piece six away", Scenes.lastSixAway(C), 0, 6, 474);
        dueChances("the game ends first", Scenes.lastOfTheTeamSixAway(C), 0, 0, 0);
    }

    private static void chancesLeaveTheBoard() {
        PachisiYard game = Scenes.lastSixAway(C);
        game.captureChance(3);
        C.due("piece 3", game.position(0, 3), 66);
        C.due("the partner's piece", game.position(2, 0), 16);
        C.due("the partner's square", game.standing(53, 0), 1);
        C.due("the other team's square", game.standing(58, 1), 1);
        C.due("home", game.home(0), 3);
        C.due("mover", game.mover(), 0);
        C.due("phase", game.phase(), 0);
        C.due("graces", game.graces(), 0);
        C.due("captures", game.captures(0), 0);
        for (int square = 0; square < 68; square++) {
            int due = square == 53 ? 1 : 0;
            C.due("standing on " + square, game.standing(square, 0), due);
        }
    }

    private static PachisiYard placed(int player, int[] own, int[] next, int[] partner, int[] last) {
        return Scenes.placed(C, player, Scenes.seenBy(player, own, next, partner, last));
    }

    // "1, 6, 15, 20, 15, 6 and 1 have no, one, and so on up to six mouths up", each found by what it alone can capture.
    private static void threatByDistance() {
        for (int player = 0; player < 4; player++) {
            for (int from = 20; from <= 21; from++) {
                for (int distance = 2; distance < WAYS_BY_WORTH.length; distance++) {
                    int at = from + distance;
                    boolean safe = at == 25 || at == 35 || at == 42;
                    int due = safe ? 0 : WAYS_BY_WORTH[distance];
                    dueThreat(player, (player + 1) % 4, due,
                            placed(player, new int[] {from}, new int[] {at - 17}, NONE, NONE));
                    dueThreat(player, (player + 3) % 4, due,
                            placed(player, new int[] {from}, NONE, NONE, new int[] {at + 17}));
                }
            }
        }
    }

    private static void dueThreat(int player, int other, int due, PachisiYard game) {
        C.due("threat", game.threat(other, 0, player), due);
        C.due("ways to capture", game.ways(1), due);
        C.due("chance to capture by one throw", game.captureChance(1), due);
        C.due("a piece in the yard", game.threat(other, 1, player), 0);
        C.due("by the partner in the yard", game.threat(other, 0, (player + 2) % 4), 0);
        game.throwShells(2);
        C.due("asked ahead of a move", game.threat(other, 0, player), due);
    }

    private static void threatByEachPiece() {
        for (int player = 0; player < 4; player++) {
            for (int piece = 0; piece < 4; piece++) {
                int[] own = {50, 50, 50, 50};
                own[piece] = 20;
                int[] next = {9, 9, 9, 9};
                next[3 - piece] = 6;
                PachisiYard game = placed(player, own, next, NONE, NONE);
                C.due("three behind", game.threat((player + 1) % 4, 3 - piece, player), 20);
                C.due("three behind", game.ways(1), 20);
            }
        }
    }

    // "with which a player of the other team could capture this piece": with that player's pieces, from their squares.
    private static void threatByOthersIsNotCounted() {
        for (int player = 0; player < 4; player++) {
            PachisiYard next = placed(player, new int[] {30}, new int[] {20, 6}, NONE, NONE);
            C.due("no piece behind", next.threat((player + 1) % 4, 1, player), 0);
            PachisiYard last = placed(player, new int[] {30}, NONE, NONE, new int[] {40, 0, 0, 20});
            C.due("no piece behind", last.threat((player + 3) % 4, 0, player), 0);
            PachisiYard partner = placed(player, new int[] {30}, new int[] {6}, new int[] {20}, NONE);
            C.due("no piece behind", partner.threat((player + 1) % 4, 0, player), 0);
        }
    }

    // A way counts once, by whichever piece and whatever it captures.
    private static void waysAddUp() {
        for (int player = 0; player < 4; player++) {
            int other = (player + 1) % 4;
            PachisiYard twoCaptors = placed(player, new int[] {19, 20}, new int[] {6}, NONE, NONE);
            C.due("three and four behind", twoCaptors.threat(other, 0, player), 35);
            C.due("three and four behind", twoCaptors.ways(1), 35);
            PachisiYard sameCaptors = placed(player, new int[] {20, 20}, new int[] {6}, NONE, NONE);
            C.due("both three behind", sameCaptors.threat(other, 0, player), 20);
            C.due("both three behind", sameCaptors.ways(1), 20);
            PachisiYard crossed = placed(player, new int[] {20, 26}, new int[] {6, 12}, NONE, NONE);
            C.due("each three behind one", crossed.ways(1), 20);
            C.due("three behind the first", crossed.threat(other, 0, player), 20);
            C.due("three behind the second", crossed.threat(other, 1, player), 20);
            PachisiYard partners = placed(player, new int[] {20}, new int[] {6}, new int[] {53}, NONE);
            C.due("the partner four behind", partners.threat(other, 0, (player + 2) % 4), 15);
            C.due("not counted for the player", partners.threat(other, 0, player), 20);
        }
    }

    // "Returns 0 to 64", of each thing that can be asked for.
    private static void mostWays() {
        for (int player = 0; player < 4; player++) {
            dueWays("all in the yard", placed(player, NONE, NONE, NONE, NONE), 8, 0, 0, 8);
            dueWays("one on the circuit", placed(player, new int[] {10}, NONE, NONE, NONE), 64, 0, 0, 8);
            dueWays("two to five from home", placed(player, new int[] {70, 69, 68, 67}, NONE, NONE, NONE),
                    56, 0, 56, 0);
            dueWays("25, 10, 6 and 3 from home", placed(player, new int[] {47, 62, 66, 69}, NONE, NONE, NONE),
                    64, 0, 28, 0);
            dueWays("72 is passed", placed(player, new int[] {71, 71, 71, 71}, NONE, NONE, NONE), 0, 0, 0, 0);
            dueWays("all home, the partner in the yard", placed(player, ALL_HOME, NONE, NONE, NONE), 8, 0, 0, 8);
        }
    }

    // The greatest chance: "64 to the power of throwsLeft"; with two graces ahead 56 ways are left of the first throw.
    private static void everyThrowCaptures() {
        for (int player = 0; player < 4; player++) {
            int[] next = {60, 61, 62, 63};
            int[] last = {30, 34, 49};
            PachisiYard game = placed(player, new int[] {7}, next, NONE, last);
            dueWays("every throw captures", game, 64, 64, 0, 8);
            dueChances("every throw captures", game, 64, 64 * 64, 64 * 64 * 64);
            C.play(game, "6>1");
            dueChances("one grace ahead", game, 64, 64 * 64, 64 * 64 * 64);
            C.play(game, "6>2");
            dueChances("two graces ahead", game, 56, 56 * 64, 56 * 64 * 64);
            dueWays("two graces ahead", game, 56, 56, 0, 0);
        }
    }

    // 10 and then 5, with a grace that a yard's piece takes ahead or between, for oneself and for the partner:
    // 6 * 6, and 6 * (6 * 64 + 8 * 6) + 2 * 6 * 6.
    private static void fifteenBehind() {
        for (int player = 0; player < 4; player++) {
            dueChances("15 behind", placed(player, new int[] {21}, new int[] {19}, NONE, NONE), 0, 36, 2664);
            dueChances("15 behind", placed(player, new int[] {0, 0, 0, 21}, new int[] {19}, NONE, NONE), 0, 36, 2664);
            dueChances("15 behind, for the partner", placed(player, ALL_HOME, NONE, new int[] {21}, new int[] {19}),
                    0, 36, 2664);
            PachisiYard grace = placed(player, new int[] {21}, new int[] {19}, NONE, NONE);
            C.play(grace, "6>1");
            dueChances("15 behind, a grace ahead", grace, 0, 36, 36 * 64);
            C.play(grace, "6>1");
            dueChances("15 behind, two graces ahead", grace, 0, 0, 0);
        }
    }

    // With no other piece to move a grace leads past what could be captured later.
    private static void forcedPast() {
        for (int player = 0; player < 4; player++) {
            int[] last = {0, 0, 0, 66};
            dueChances("forced past", placed(player, new int[] {72, 72, 72, 22}, new int[] {10}, NONE, last),
                    6, 6 * 64, 6 * 64 * 64);
            dueChances("one that enters lets it stay behind", placed(player, new int[] {72, 72, 0, 22}, new int[] {10},
                    NONE, last), 6, 432, 6 * 64 * 64 + 8 * 432);
        }
    }

    // "that the third grace in a row is lost is taken into account", also behind graces that were lost.
    private static void lostGracesAhead() {
        for (int player = 0; player < 4; player++) {
            int[] own = {72, 72, 72, 66};
            PachisiYard game = placed(player, own, NONE, new int[] {20}, new int[] {6});
            dueWays("no grace ahead", game, 57, 0, 1, 0);
            // The 6 brings the last piece home, then the partner's piece captures by 3. With three throws there may be
            // a grace of the partner between the two, or a lost one ahead of them.
            dueChances("no grace ahead", game, 0, 20, 20 * 64 + 8 * 20 + 7 * 20);
            C.play(game, "0");
            dueWays("one lost grace ahead", game, 57, 0, 1, 0);
            dueChances("one lost grace ahead", game, 0, 20, 20 * 64);
            C.play(game, "1");
            dueWays("two lost graces ahead", game, 56, 0, 0, 0);
            dueChances("two lost graces ahead", game, 0, 0, 0);
        }
    }

    // No throw can do anything any more, or none that captures.
    private static void nothingLeftToDo() {
        for (int player = 0; player < 4; player++) {
            PachisiYard stuck = placed(player, new int[] {71, 71, 71, 71}, new int[] {20}, new int[] {5}, NONE);
            dueChances("all on 71", stuck, 0, 0, 0);
            PachisiYard through = placed(player, ALL_HOME, new int[] {20}, new int[] {72, 72, 72, 71}, NONE);
            dueWays("the last piece on 71", through, 0, 0, 0, 0);
            dueChances("the last piece on 71", through, 0, 0, 0);
            PachisiYard last = placed(player, ALL_HOME, new int[] {20}, new int[] {72, 72, 72, 66}, NONE);
            dueWays("the last piece on 66", last, 57, 0, 1, 0);
            dueChances("the game ends ahead of a capture", last, 0, 0, 0);
        }
    }
}
