/** Promises 9 to 16: the board. */
final class BoardTest {
    private static final Checks C = new Checks();

    public static void main(String[] args) {
        positions();
        squares();
        standing();
        safeSquares();
        home();
        captures();
        winner();
        distance();
        homeOfEachPlayer();
        capturedOfEachPlayer();
        samePositionIsNotSameSquare();
        distanceOfEachPiece();
        C.end("BoardTest");
    }

    private static void positions() {
        PachisiYard game = Scenes.played(C, "0>3 0>3 5>3 | 6>2 4>2 | 1>1 2>1 | 6>0 5>0");
        int[][] due = {{0, 0, 0, 31}, {0, 0, 5, 0}, {0, 3, 0, 0}, {6, 0, 0, 0}};
        for (int player = 0; player < 4; player++) {
            for (int piece = 0; piece < 4; piece++) {
                C.due("position(" + player + ", " + piece + ")", game.position(player, piece), due[player][piece]);
            }
        }
    }

    private static void squares() {
        PachisiYard game = Scenes.played(C, "0>3 0>3 5>3 | 6>2 4>2 | 1>1 2>1 | 6>0 5>0");
        int[][] due = {{-1, -1, -1, 34}, {-1, -1, 25, -1}, {-1, 40, -1, -1}, {60, -1, -1, -1}};
        for (int player = 0; player < 4; player++) {
            for (int piece = 0; piece < 4; piece++) {
                C.due("square(" + player + ", " + piece + ")", game.square(player, piece), due[player][piece]);
            }
        }
        int[] entries = {4, 21, 38, 55};
        PachisiYard entered = Scenes.played(C, "6>0 6>1 6 | 6>0 6>1 6 | 6>0 6>1 6 | 6>0 6>1 6");
        for (int player = 0; player < 4; player++) {
            C.due("entry of player " + player, entered.square(player, 1), entries[player]);
        }
        PachisiYard round = Scenes.played(C, "2 | 2 | 2 | 6>0 1>0 2>0");
        C.due("ahead of square 0", round.square(3, 0), 67);
        C.play(round, "2 | 2 | 2 | 2>0");
        C.due("round past square 67", round.square(3, 0), 1);
        PachisiYard lane = Scenes.played(C, "0>0 0>0 5>0 | 2 | 2 | 2 | 0>0 5>0 | 2 | 2 | 2 | 3>0 | 2 | 2 | 2");
        C.due("position 64", lane.square(0, 0), 67);
        C.play(lane, "2>0");
        C.due("position 66", lane.square(0, 0), -1);
        PachisiYard first = Scenes.played(C, "0>0 0>0 5>0 | 2 | 2 | 2 | 0>0 5>0 | 2 | 2 | 2 | 4>0");
        C.due("the lane's first position", first.position(0, 0), 65);
        C.due("position 65", first.square(0, 0), -1);
        C.due("home", Scenes.playerZeroHome(C).square(0, 0), -1);
    }

    private static void standing() {
        PachisiYard fresh = new PachisiYard();
        for (int square = 0; square < 68; square++) {
            C.due("new: standing", fresh.standing(square, 0) + fresh.standing(square, 1), 0);
        }
        PachisiYard game = Scenes.mixedCastle(C);
        for (int square = 0; square < 68; square++) {
            C.due("team 0 on " + square, game.standing(square, 0), square == 19 ? 1 : 0);
            C.due("team 1 on " + square, game.standing(square, 1), square == 21 ? 2 : square == 25 ? 1 : 0);
        }
        PachisiYard onEdges = Scenes.played(C, "2 | 2 | 2 | 6>0 1>0 2>0");
        C.due("square 67", onEdges.standing(67, 1), 1);
        C.due("square 67, the other team", onEdges.standing(67, 0), 0);
        PachisiYard even = Scenes.played(C, "2 | 2 | 0>0 0>0 5>0");
        C.due("square 0, team 0", even.standing(0, 0), 1);
        C.due("square 0, not team 1", even.standing(0, 1), 0);
        PachisiYard odd = Scenes.played(C, "2 | 2 | 2 | 0>0 1>0 3>0");
        C.due("square 0, team 1", odd.standing(0, 1), 1);
        C.due("square 0, not team 0", odd.standing(0, 0), 0);
        PachisiYard own = Scenes.ownCastle(C);
        C.due("the partner's castle", own.standing(38, 0), 2);
        C.play(own, "4>0");
        C.due("three on a square", own.standing(38, 0), 3);
        C.due("left", own.standing(34, 0), 0);
    }

    private static void safeSquares() {
        PachisiYard game = new PachisiYard();
        for (int square = 0; square < 68; square++) {
            boolean safe = false;
            for (int due : new int[] {4, 11, 21, 28, 38, 45, 55, 62}) {
                safe |= due == square;
            }
            C.due("isSafe(" + square + ")", game.isSafe(square), safe);
        }
    }

    private static void home() {
        PachisiYard game = Scenes.lastPieceAtSeventy(C, 0);
        C.due("player 0", game.home(0), 4);
        C.due("player 1", game.home(1), 0);
        C.due("player 2", game.home(2), 3);
        C.due("player 3", game.home(3), 0);
        C.play(game, "2>3");
        C.due("player 2 at last", game.home(2), 4);
    }

    private static void captures() {
        PachisiYard game = Scenes.fiveBehind(C);
        C.play(game, "5>0");
        C.due("captured by 0", game.captures(0), 1);
        for (int player = 1; player < 4; player++) {
            C.due("captured by " + player, game.captures(player), 0);
        }
        C.play(game, "3>0 | 6>0 1>0 2>0 | 2 | 2 | 6>0");
        C.due("captured by 0 again", game.captures(0), 2);
        C.due("the captured", game.position(1, 0), 0);
        PachisiYard other = Scenes.played(C, "2 | 6>0 1>0 5>0 | 6>0 3>0 | 2 | 2 | 5>0");
        int[] due = {0, 1, 0, 0};
        for (int player = 0; player < 4; player++) {
            C.due("captured by " + player, other.captures(player), due[player]);
        }
        PachisiYard partner = Scenes.partnerFiveBehind(C);
        C.play(partner, "5>0");
        C.due("with the partner's piece", partner.captures(0), 1);
        C.due("by the partner", partner.captures(2), 0);
    }

    private static void winner() {
        for (int team = 0; team < 2; team++) {
            PachisiYard game = Scenes.lastPieceAtSeventy(C, team);
            C.due("not over", game.winner(), -1);
            C.play(game, "2>3");
            C.due("over", game.winner(), team);
        }
        C.due("one player home is not over", Scenes.playerZeroHome(C).winner(), -1);
    }

    private static void distance() {
        PachisiYard fresh = new PachisiYard();
        C.due("new: team 0", fresh.distance(0), 576);
        C.due("new: team 1", fresh.distance(1), 576);
        PachisiYard game = Scenes.played(C, "0>3 0>3 5>3 | 6>2 4>2 | 1>1 2>1 | 6>0 5>0");
        C.due("team 0", game.distance(0), 576 - 31 - 3);
        C.due("team 1", game.distance(1), 576 - 5 - 6);
        PachisiYard captured = Scenes.fiveBehind(C);
        C.due("ahead of the capture", captured.distance(1), 572);
        C.play(captured, "5>0");
        C.due("after the capture", captured.distance(1), 576);
        C.due("of the capturers", captured.distance(0), 555);
        PachisiYard last = Scenes.lastPieceAtSeventy(C, 1);
        C.due("two away", last.distance(1), 2);
        C.play(last, "2>3");
        C.due("won", last.distance(1), 0);
        C.due("lost", last.distance(0), 576);
    }

    // "Returns 0 to 4."
    private static void homeOfEachPlayer() {
        int[][] own = {{}, {72}, {72, 72}, {72, 72, 72}, {72, 72, 72, 72}};
        for (int player = 0; player < 4; player++) {
            for (int count = 0; count <= 4; count++) {
                PachisiYard game = Scenes.placed(C, 0, Scenes.seenBy(player, own[count], new int[0], new int[0],
                        new int[0]));
                for (int other = 0; other < 4; other++) {
                    C.due("home", game.home(other), other == player ? count : 0);
                }
                C.due("distance", game.distance(player % 2), 576 - 72 * count);
                C.due("distance of the others", game.distance(1 - player % 2), 576);
            }
            PachisiYard near = Scenes.placed(C, 0, Scenes.seenBy(player, new int[] {71, 71, 71, 71}, new int[0],
                    new int[0], new int[0]));
            C.due("71 is not home", near.home(player), 0);
        }
    }

    // A captured piece "goes to its yard", whosever and whichever it is, and no other one does.
    private static void capturedOfEachPlayer() {
        for (int player = 0; player < 4; player++) {
            for (int piece = 0; piece < 4; piece++) {
                int[] next = {11, 12, 13, 14};
                next[piece] = 6;
                PachisiYard game = Scenes.placed(C, player, Scenes.seenBy(player, new int[] {20}, next, new int[] {10},
                        new int[] {39, 41}));
                C.play(game, "3>0");
                int other = (player + 1) % 4;
                for (int k = 0; k < 4; k++) {
                    C.due("of the next player", game.position(other, k), k == piece ? 0 : next[k]);
                    C.due("counted", game.captures(k), k == player ? 1 : 0);
                }
                C.due("no square", game.square(other, piece), -1);
                C.due("of the partner", game.position((player + 2) % 4, 0), 10);
                C.due("of the last player", game.position((player + 3) % 4, 0), 39);
                C.due("of the last player", game.position((player + 3) % 4, 1), 41);
                C.due("distance", game.distance(other % 2), 576 - 39 - 41 + next[piece] - sum(next));
            }
        }
    }

    // It "captures that piece": what has the same position elsewhere stays.
    private static void samePositionIsNotSameSquare() {
        for (int player = 0; player < 4; player++) {
            int[] own = {20, 0, 0, 6};
            PachisiYard game = Scenes.placed(C, player, Scenes.seenBy(player, own, new int[] {6}, new int[] {6},
                    new int[] {6}));
            C.play(game, "3>0");
            C.due("captured", game.position((player + 1) % 4, 0), 0);
            C.due("one's own stays", game.position(player, 3), 6);
            C.due("the partner's stays", game.position((player + 2) % 4, 0), 6);
            C.due("the last player's stays", game.position((player + 3) % 4, 0), 6);
        }
    }

    private static int sum(int[] numbers) {
        int sum = 0;
        for (int number : numbers) {
            sum += number;
        }
        return sum;
    }

    // "the sum of 72 less the position over its eight pieces"
    private static void distanceOfEachPiece() {
        for (int player = 0; player < 4; player++) {
            int[] own = {5, 71, 64, 65};
            PachisiYard game = Scenes.placed(C, player, Scenes.seenBy(player, own, new int[] {30}, new int[] {72, 3},
                    new int[0]));
            C.due("distance", game.distance(player % 2), 576 - sum(own) - 75);
            C.due("distance of the others", game.distance(1 - player % 2), 546);
        }
    }
}
