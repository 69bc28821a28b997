/**
 * What "Terms" says of positions and squares, safe squares and castles, and where a piece can go, at its edges and for
 * each player: the others sit around the circuit in the same way for every one.
 */
final class CircuitTest {
    private static final Checks C = new Checks();
    private static final int[] NONE = {};
    private static final int[] WORTHS = {25, 10, 2, 3, 4, 5, 6};
    private static final int[] FIRST_SQUARES = {4, 21, 38, 55};
    // The safe squares as positions of every player, but for the first one, on which pieces enter.
    private static final int[] SAFE_POSITIONS = {8, 18, 25, 35, 42, 52, 59};

    public static void main(String[] args) {
        yardHasNoSquare();
        squaresOfTheWay();
        squaresRoundTheEnd();
        circuitEndsAt64();
        goesOnTo72AtMost();
        seventyOneAndHomeStay();
        moveRoundTheEnd();
        captureRoundTheEnd();
        castleRoundTheEnd();
        captureOnTheLastPosition();
        laneIsNotOnTheCircuit();
        lanesOfOthersDoNotMeet();
        entersWithAGraceAlone();
        entryHeldByTheOtherTeam();
        entryBesideACastle();
        castleOnTheWay();
        castleSizes();
        castleOfTwoPlayers();
        castleBehind();
        ownCastlesLetPass();
        safeSquaresShelter();
        besideSafeSquaresNoShelter();
        fullSquare();
        C.end("CircuitTest");
    }

    private static PachisiYard alone(int player, int position) {
        return Scenes.placed(C, player, Scenes.seenBy(player, new int[] {position}, NONE, NONE, NONE));
    }

    /** A piece of the player, with pieces of the next player and of the last one, both of the other team. */
    private static PachisiYard among(int player, int position, int[] next, int[] last) {
        return Scenes.placed(C, player, Scenes.seenBy(player, new int[] {position}, next, NONE, last));
    }

    /** The position that the next player has on this one's square; the last player's is 17 positions more. */
    private static int seenByNext(int position) {
        return position > 17 ? position - 17 : position + 51;
    }

    private static int[] twice(int position) {
        return new int[] {position, position};
    }

    /** Throws, and says whether piece 0 can move by it. */
    private static boolean canGo(PachisiYard game, int mouths) {
        return game.throwShells(mouths) > 0 && (game.movable() & 1) == 1;
    }

    private static void dueGo(String what, PachisiYard game, int mouths, int due) {
        C.due(what + ": can go", canGo(game, mouths), true);
        C.due(what + ": goes", game.move(0), due);
    }

    private static void dueStay(String what, PachisiYard game, int mouths) {
        C.due(what + ": stays", canGo(game, mouths), false);
    }

    // "0 in the yard", "All pieces are in the yard at first."
    private static void yardHasNoSquare() {
        PachisiYard game = new PachisiYard();
        for (int player = 0; player < 4; player++) {
            for (int piece = 0; piece < 4; piece++) {
                C.due("in the yard", game.position(player, piece), 0);
                C.due("no square", game.square(player, piece), -1);
            }
        }
    }

    // "1 to 64 on the circuit, 65 to 71 on the home lane of its player, and 72 home"; no piece comes to stand on 2.
    private static void squaresOfTheWay() {
        for (int player = 0; player < 4; player++) {
            int square = FIRST_SQUARES[player];
            for (int position = 1; position <= 72; position++) {
                if (position > 2) {
                    PachisiYard game = alone(player, position);
                    C.due("player " + player + " on " + position, game.square(player, 0), position > 64 ? -1 : square);
                    C.due("home", game.home(player), position == 72 ? 1 : 0);
                }
                square = square == 67 ? 0 : square + 1;
            }
        }
        PachisiYard entered = Scenes.played(C, "6>0 6>1 6 | 6>0 6>1 6 | 6>0 6>1 6 | 6>0 6>1 6");
        for (int player = 0; player < 4; player++) {
            C.due("the entry of player " + player, entered.square(player, 0), FIRST_SQUARES[player]);
        }
    }

    // "the remainder of 17 * a + 3 + p divided by 68"
    private static void squaresRoundTheEnd() {
        int[] lastAhead = {64, 47, 30, 13};
        int[] ends = {67, 16, 33, 50};
        for (int player = 0; player < 4; player++) {
            C.due("square 67", alone(player, lastAhead[player]).square(player, 0), 67);
            C.due("square 67 holds it", alone(player, lastAhead[player]).standing(67, player % 2), 1);
            C.due("position 64", alone(player, 64).square(player, 0), ends[player]);
            if (player > 0) {
                C.due("square 0", alone(player, lastAhead[player] + 1).square(player, 0), 0);
                C.due("square 0 holds it", alone(player, lastAhead[player] + 1).standing(0, player % 2), 1);
            }
        }
    }

    // "1 to 64 on the circuit, 65 to 71 on the home lane": what stands on the lane or is home stands on no square.
    private static void circuitEndsAt64() {
        for (int player = 0; player < 4; player++) {
            for (int position : new int[] {63, 64, 65, 66, 71, 72}) {
                PachisiYard game = alone(player, position);
                int count = 0;
                for (int square = 0; square < 68; square++) {
                    count += game.standing(square, player % 2);
                    C.due("none of the other team", game.standing(square, 1 - player % 2), 0);
                }
                C.due("on the circuit at " + position, count, position <= 64 ? 1 : 0);
            }
        }
    }

    // "goes on by as many positions as the throw is worth, if that leads to 72 at most"
    private static void goesOnTo72AtMost() {
        for (int player = 0; player < 4; player++) {
            for (int position = 3; position <= 71; position++) {
                for (int mouths = 0; mouths <= 6; mouths++) {
                    PachisiYard game = alone(player, position);
                    String what = "player " + player + " on " + position + " by " + mouths;
                    if (position + WORTHS[mouths] <= 72) {
                        dueGo(what, game, mouths, position + WORTHS[mouths]);
                        C.due(what + ": stands there", game.position(player, 0), position + WORTHS[mouths]);
                    } else {
                        dueStay(what, game, mouths);
                        C.due(what + ": stays there", game.position(player, 0), position);
                    }
                }
            }
        }
    }

    // No throw is worth 1, and "a piece that is neither in the yard nor home goes on".
    private static void seventyOneAndHomeStay() {
        for (int player = 0; player < 4; player++) {
            for (int mouths = 0; mouths <= 6; mouths++) {
                dueStay("on 71", alone(player, 71), mouths);
                dueStay("at home", alone(player, 72), mouths);
                PachisiYard grace = alone(player, 72);
                grace.throwShells(6);
                C.due("but the others enter", grace.movable(), 14);
            }
        }
    }

    private static void moveRoundTheEnd() {
        for (int player = 1; player < 4; player++) {
            int at67 = 64 - 17 * player;
            for (int mouths = 2; mouths <= 6; mouths++) {
                PachisiYard game = alone(player, at67);
                dueGo("round the end", game, mouths, at67 + mouths);
                C.due("square behind the end", game.square(player, 0), mouths - 1);
                C.due("held", game.standing(mouths - 1, player % 2), 1);
                C.due("left", game.standing(67, player % 2), 0);
            }
        }
    }

    private static void captureRoundTheEnd() {
        // Square 66 is position 12 of player 3, 29 of player 2 and 46 of player 1; square 0 is two positions further.
        PachisiYard game = among(3, 12, NONE, new int[] {31});
        C.due("the captor", game.square(3, 0), 66);
        C.due("the captured", game.square(2, 0), 0);
        C.due("threat round the end", game.threat(2, 0, 3), 15);
        C.due("ways round the end", game.ways(1), 15);
        dueGo("capture round the end", game, 2, 114);
        C.due("in its yard", game.position(2, 0), 0);
        PachisiYard one = among(1, 46, new int[] {31}, NONE);
        C.due("threat by player 1", one.threat(2, 0, 1), 15);
        dueGo("capture by player 1", one, 2, 148);
        PachisiYard two = among(2, 29, new int[] {14}, NONE);
        C.due("threat by player 2", two.threat(3, 0, 2), 15);
        dueGo("capture by player 2", two, 2, 131);
    }

    private static void castleRoundTheEnd() {
        for (int mouths = 0; mouths <= 6; mouths++) {
            dueStay("castle on square 0", among(3, 12, NONE, twice(31)), mouths);
            dueStay("castle on square 0", among(2, 29, twice(14), NONE), mouths);
            dueStay("castle on square 67", among(3, 11, NONE, twice(30)), mouths == 2 ? 3 : mouths);
        }
    }

    // Position 64 is the last one on the circuit: pieces are captured there, and castles block there.
    private static void captureOnTheLastPosition() {
        for (int player = 0; player < 4; player++) {
            PachisiYard game = among(player, 61, new int[] {47}, NONE);
            C.due("threat", game.threat((player + 1) % 4, 0, player), 20);
            dueGo("capture on 64", game, 3, 164);
            C.due("in its yard", game.position((player + 1) % 4, 0), 0);
            for (int mouths = 3; mouths <= 6; mouths++) {
                dueStay("castle on 64", among(player, 61, twice(47), NONE), mouths);
            }
            dueStay("castle on 64, all the way home", among(player, 62, twice(47), NONE), 1);
        }
    }

    // "If its way leads over the circuit": from 65 on it does not, and the square that would come next is another's.
    private static void laneIsNotOnTheCircuit() {
        for (int player = 0; player < 4; player++) {
            int other = (player + 1) % 4;
            for (int mouths = 2; mouths <= 6; mouths++) {
                dueGo("a castle beside the lane", among(player, 62, twice(48), NONE), mouths, 62 + mouths);
                dueGo("a castle further on", among(player, 62, twice(50), NONE), mouths, 62 + mouths);
            }
            PachisiYard single = among(player, 62, new int[] {48}, NONE);
            C.due("no threat", single.threat(other, 0, player), 0);
            C.due("no way to capture", single.ways(1), 0);
            dueGo("no capture on 65", single, 3, 65);
            C.due("still there", single.position(other, 0), 48);
            C.due("on its square", single.standing(single.square(other, 0), other % 2), 1);
        }
    }

    private static void lanesOfOthersDoNotMeet() {
        for (int player = 0; player < 4; player++) {
            PachisiYard game = among(player, 66, twice(70), new int[] {69});
            C.due("no threat on the lane", game.threat((player + 1) % 4, 0, player), 0);
            dueGo("onto 69", game, 3, 69);
            dueGo("past 70", among(player, 66, twice(70), new int[] {69}), 6, 72);
            C.due("still there", game.position((player + 3) % 4, 0), 69);
        }
    }

    // "A piece in the yard can enter with a grace, and comes to position 1, whatever the throw is worth."
    private static void entersWithAGraceAlone() {
        for (int player = 0; player < 4; player++) {
            for (int mouths = 0; mouths <= 6; mouths++) {
                boolean grace = mouths == 0 || mouths == 1 || mouths == 6;
                for (int piece = 0; piece < 4; piece++) {
                    PachisiYard game = Scenes.placed(C, player, new int[][] {{}, {}, {}, {}});
                    C.due("ways to enter", game.ways(3), 8);
                    C.due("worth", game.throwShells(mouths), grace ? WORTHS[mouths] : -WORTHS[mouths]);
                    if (grace) {
                        C.due("all can enter", game.movable(), 15);
                        C.due("enters", game.move(piece), 1);
                        C.due("on its first square", game.square(player, piece), FIRST_SQUARES[player]);
                    }
                }
            }
        }
    }

    // "but if the square is safe, it cannot move there, nor enter"; castles: "this holds for a piece that enters, too".
    private static void entryHeldByTheOtherTeam() {
        for (int player = 0; player < 4; player++) {
            int[][] next = {{52}, {52, 52}, {}, {}, {52}};
            int[][] last = {{}, {}, {18}, {18, 18}, {18}};
            for (int k = 0; k < next.length; k++) {
                for (int mouths : new int[] {0, 1, 6}) {
                    PachisiYard game = Scenes.placed(C, player,
                            Scenes.seenBy(player, NONE, next[k], NONE, last[k]));
                    C.due("no way to enter", game.ways(3), 0);
                    C.due("nor to capture", game.ways(1), 0);
                    C.due("cannot enter", game.throwShells(mouths), -WORTHS[mouths]);
                }
            }
        }
    }

    // What stands just behind the entry or just ahead of it is neither passed nor where the piece comes to stand.
    private static void entryBesideACastle() {
        for (int player = 0; player < 4; player++) {
            for (int beside : new int[] {51, 53}) {
                PachisiYard game = Scenes.placed(C, player, Scenes.seenBy(player, NONE, twice(beside), NONE, NONE));
                C.due("ways to enter", game.ways(3), 8);
                dueGo("enters beside a castle", game, 0, 1);
            }
        }
    }

    // "no square that it passes, or where it comes to stand, may be a castle of the other team"
    private static void castleOnTheWay() {
        for (int player = 0; player < 4; player++) {
            for (int mouths = 0; mouths <= 6; mouths++) {
                int end = 20 + WORTHS[mouths];
                String what = "player " + player + " by " + mouths + ", a castle ";
                dueStay(what + "first", among(player, 20, twice(seenByNext(21)), NONE), mouths);
                dueStay(what + "at the end", among(player, 20, twice(seenByNext(end)), NONE), mouths);
                dueStay(what + "ahead of the end", among(player, 20, twice(seenByNext(end - 1)), NONE), mouths);
                dueGo(what + "past the end", among(player, 20, twice(seenByNext(end + 1)), NONE), mouths, end);
            }
        }
    }

    // "A castle is a square of the circuit with two or more pieces of the same team."
    private static void castleSizes() {
        int[][] sizes = {{6}, {6, 6}, {6, 6, 6}, {6, 6, 6, 6}};
        for (int player = 0; player < 4; player++) {
            for (int size = 1; size <= 4; size++) {
                PachisiYard past = among(player, 20, sizes[size - 1], NONE);
                PachisiYard onto = among(player, 20, sizes[size - 1], NONE);
                C.due("standing", past.standing(past.square((player + 1) % 4, 0), 1 - player % 2), size);
                C.due("threat", past.threat((player + 1) % 4, 0, player), size == 1 ? 20 : 0);
                if (size == 1) {
                    dueGo("one lets pass", past, 4, 24);
                    dueGo("one is captured", onto, 3, 123);
                } else {
                    dueStay(size + " do not let pass", past, 4);
                    dueStay(size + " are not captured", onto, 3);
                }
            }
        }
    }

    private static void castleOfTwoPlayers() {
        for (int player = 0; player < 4; player++) {
            dueStay("past two players", among(player, 20, new int[] {6}, new int[] {40}), 4);
            dueStay("onto two players", among(player, 20, new int[] {6}, new int[] {40}), 3);
            dueGo("two singles let pass", among(player, 20, new int[] {6}, new int[] {39}), 4, 24);
        }
    }

    // A castle just behind the piece's start, and one on a square that its way does not reach.
    private static void castleBehind() {
        for (int player = 0; player < 4; player++) {
            for (int mouths = 0; mouths <= 6; mouths++) {
                dueGo("a castle behind", among(player, 22, twice(4), NONE), mouths, 22 + WORTHS[mouths]);
            }
        }
    }

    // Castles are of "the other team"; "captures" a piece "of the other team" alone.
    private static void ownCastlesLetPass() {
        for (int player = 0; player < 4; player++) {
            int[][] partners = {{57}, {57, 57}};
            for (int[] partner : partners) {
                int[][] positions = Scenes.seenBy(player, new int[] {20}, NONE, partner, NONE);
                PachisiYard onto = Scenes.placed(C, player, positions);
                C.due("the partner's square", onto.square((player + 2) % 4, 0), (17 * player + 26) % 68);
                dueGo("onto the partner's", onto, 3, 23);
                C.due("not captured", onto.position((player + 2) % 4, 0), 57);
                C.due("stands with it", onto.standing(onto.square(player, 0), player % 2), partner.length + 1);
                dueGo("past the partner's", Scenes.placed(C, player, positions), 4, 24);
            }
            int[][] own = Scenes.seenBy(player, new int[] {20, 23, 23}, NONE, NONE, NONE);
            dueGo("onto one's own", Scenes.placed(C, player, own), 3, 23);
            dueGo("past one's own", Scenes.placed(C, player, own), 4, 24);
        }
    }

    // "but if the square is safe, it cannot move there"; it can be passed, and an empty one is stood on.
    private static void safeSquaresShelter() {
        for (int player = 0; player < 4; player++) {
            for (int safe : SAFE_POSITIONS) {
                String what = "player " + player + ", safe " + safe;
                PachisiYard onto = besideSingle(player, safe - 3, safe);
                int other = seenByNext(safe) == 1 || safe <= 17 ? (player + 3) % 4 : (player + 1) % 4;
                C.due(what + ": safe", onto.isSafe(onto.square(other, 0)), true);
                C.due(what + ": no threat", onto.threat(other, 0, player), 0);
                C.due(what + ": no way to capture", onto.ways(1), 0);
                dueStay(what, onto, 3);
                dueGo(what + ": passed", besideSingle(player, safe - 3, safe), 4, safe + 1);
                dueGo(what + ": empty", alone(player, safe - 3), 3, safe);
                dueGo(what + ": one's own", Scenes.placed(C, player,
                        Scenes.seenBy(player, new int[] {safe - 3, safe}, NONE, NONE, NONE)), 3, safe);
            }
        }
    }

    private static void besideSafeSquaresNoShelter() {
        for (int player = 0; player < 4; player++) {
            for (int safe : SAFE_POSITIONS) {
                for (int at = safe - 1; at <= safe + 1; at += 2) {
                    PachisiYard game = besideSingle(player, at - 3, at);
                    C.due("ways to capture beside " + safe, game.ways(1), 20);
                    dueGo("captures beside " + safe, game, 3, 100 + at);
                }
            }
        }
    }

    /** A piece of the player, and one of the other team: of the next player, if that one's piece can stand there. */
    private static PachisiYard besideSingle(int player, int position, int single) {
        int next = seenByNext(single);
        boolean ofLast = next <= 2 || single <= 17;
        return ofLast ? among(player, position, NONE, new int[] {single + 17})
                : among(player, position, new int[] {next}, NONE);
    }

    // All eight pieces of a team on one square.
    private static void fullSquare() {
        for (int team = 0; team < 2; team++) {
            int[][] positions = new int[4][];
            positions[team] = new int[] {37, 37, 37, 37};
            positions[team + 2] = new int[] {3, 3, 3, 3};
            positions[1 - team] = NONE;
            positions[3 - team] = NONE;
            PachisiYard game = Scenes.placed(C, 1 - team, positions);
            C.due("eight on a square", game.standing(40 + 17 * team, team), 8);
            C.due("none of the others", game.standing(40 + 17 * team, 1 - team), 0);
            C.due("distance", game.distance(team), 4 * 35 + 4 * 69);
        }
    }
}
