import java.util.Arrays;
import java.util.HashMap;
import java.util.Map;

/** Games played up to a scene that several tests ask about. */
final class Scenes {
    private static final Map<String, String> SCRIPTS = new HashMap<>();

    private Scenes() {
    }

    static PachisiYard played(Checks c, String script) {
        PachisiYard game = new PachisiYard();
        c.play(game, script);
        return game;
    }

    /**
     * A game whose pieces have been brought to the positions told, for each player and piece, with the player told to
     * throw and no graces.
     */
    static PachisiYard placed(Checks c, int onTurn, int[][] positions) {
        String script = SCRIPTS.computeIfAbsent(onTurn + Arrays.deepToString(positions),
                key -> ScriptFinder.scriptTo(onTurn, positions));
        PachisiYard game = played(c, script);
        for (int player = 0; player < 4; player++) {
            for (int piece = 0; piece < positions[player].length; piece++) {
                c.due(script + ": placed", game.position(player, piece), positions[player][piece]);
            }
        }
        c.due(script + ": to throw", game.onTurn(), onTurn);
        return game;
    }

    /** The positions of placed, as seen by a player: its own, and those of the players behind it in order. */
    static int[][] seenBy(int player, int[] own, int[] next, int[] partner, int[] last) {
        int[][] positions = new int[4][];
        positions[player] = own;
        positions[(player + 1) % 4] = next;
        positions[(player + 2) % 4] = partner;
        positions[(player + 3) % 4] = last;
        return positions;
    }

    /** Player 0 to throw, piece 0 on square 19; piece 0 of player 1 is alone five squares ahead, on square 24. */
    static PachisiYard fiveBehind(Checks c) {
        return played(c, "6>0 1>0 5>0 | 6>0 3>0 | 2 | 2");
    }

    /** As fiveBehind, but ten squares behind. */
    static PachisiYard tenBehind(Checks c) {
        return played(c, "6>0 6>0 4>0 | 6>0 3>0 | 2 | 2");
    }

    /** Player 0 to throw, piece 0 on square 19, piece 1 on square 7; a castle of player 1 on square 24. */
    static PachisiYard castleAhead(Checks c) {
        return played(c, "6>0 1>0 5>0 | 6>0 6>1 3>0 | 2 | 2 | 6>1 3>1 | 3>1 | 2 | 2");
    }

    /** Player 0 to throw, piece 0 on square 19; players 1 and 3 make a castle on 21, player 1 is alone on 25. */
    static PachisiYard mixedCastle(Checks c) {
        return played(c, "6>0 6>0 5>0 | 5 | 5 | 1>0 0>0 4>0 | 4>0 | 0>2 1>0 4>0 | 2 | 5>0");
    }

    /** Player 0 to throw, piece 0 on square 20; player 1 has a castle on square 21 and is alone on 25. */
    static PachisiYard shielded(Checks c) {
        return played(c, "1>0 1>0 4>0 | 0>2 6>0 1 | 5 | 5 | 2>0 | 6>1 4>2 | 3 | 4");
    }

    /** Player 0 to throw, piece 0 on square 34; player 2 has a castle on square 38. */
    static PachisiYard ownCastle(Checks c) {
        return played(c, "1>0 0>0 5>0 | 5 | 1>0 6>3 1 | 4");
    }

    /** Player 0 to throw, piece 0 on square 17; player 1 is alone on 21, a safe square, and on 26, which is not. */
    static PachisiYard safeAhead(Checks c) {
        return played(c, "0>0 1>0 3>0 | 0>0 0>1 5>0 | 3 | 5");
    }

    /** Player 0 to throw, piece 0 on square 65; players 1 and 3 make a castle on 67, player 0's last square. */
    static PachisiYard castleAtTheEnd(Checks c) {
        return played(c, "1>0 6>0 5>0 | 6>0 1>0 3>0 | 1>1 5>1 | 1>1 6>1 2>1 | 1>0 1>0 0 | 0>0 5>0 | 4>1 | 4>1"
                + " | 0>0 5>0 | 3>0 | 3>1 | 0>0 2>0");
    }

    /** Player 1 to throw, all in the yard, with a piece of player 0 on square 21, where player 1 enters. */
    static PachisiYard entryHeld(Checks c) {
        return played(c, "6>0 1>0 5>0 | 2 | 2 | 2 | 2>0");
    }

    /** As entryHeld, with two pieces of player 0 there. */
    static PachisiYard entryCastle(Checks c) {
        return played(c, "6>3 4>3 | 4 | 2 | 5 | 1>3 3>3 | 2 | 2 | 2 | 0>0 4>0 | 5 | 3 | 2 | 1>0 3>0");
    }

    /** Player 1 to throw; player 0 has just brought the last piece home, and all the others are in the yard. */
    static PachisiYard playerZeroHome(Checks c) {
        PachisiYard game = threeHome(c);
        c.play(game, turns("0>P 0>P 5>P | 2 | 2 | 2 | 0>P 1>P 4>P | 2 | 2 | 2 | 2>P", 3));
        return game;
    }

    /** Player 0 to throw with the pieces 0 to 2 home; all the others are in the yard. */
    private static PachisiYard threeHome(Checks c) {
        PachisiYard game = new PachisiYard();
        for (int piece = 0; piece < 3; piece++) {
            c.play(game, turns("0>P 0>P 5>P | 2 | 2 | 2 | 0>P 1>P 4>P | 2 | 2 | 2 | 2>P | 2 | 2 | 2", piece));
        }
        return game;
    }

    /** Player 0 to throw, piece 3 on position 66, the others home; piece 0 of player 2 is five behind player 3. */
    static PachisiYard lastSixAway(Checks c) {
        PachisiYard game = threeHome(c);
        c.play(game, "0>3 0>3 5>3 | 2 | 2 | 2 | 0>3 5>3 | 2 | 2 | 2 | 5>3 | 2 | 6>0 1>0 5>0 | 6>0 3>0");
        return game;
    }

    /** Player 0, all home, to throw for player 2, whose piece 0 is five squares behind piece 0 of player 3. */
    static PachisiYard partnerFiveBehind(Checks c) {
        PachisiYard game = playerZeroHome(c);
        c.play(game, "2 | 6>0 1>0 5>0 | 6>0 3>0");
        return game;
    }

    /** The second player of the team to throw with piece 3 on position 70; all its other pieces are home. */
    static PachisiYard lastPieceAtSeventy(Checks c, int team) {
        PachisiYard game = new PachisiYard();
        if (team == 1) {
            c.play(game, "2");
        }
        for (int piece = 0; piece < 4; piece++) {
            c.play(game, turns("0>P 0>P 5>P | 2 | 0>P 0>P 5>P | 2", piece));
            c.play(game, turns("0>P 1>P 4>P | 2 | 0>P 1>P 4>P | 2", piece));
            c.play(game, turns(piece < 3 ? "2>P | 2 | 2>P | 2" : "2>P | 2", piece));
        }
        return game;
    }

    /** Player 0, all home, to throw for player 2, whose piece 3 on position 66 is the last one of the team. */
    static PachisiYard lastOfTheTeamSixAway(Checks c) {
        PachisiYard game = new PachisiYard();
        for (int piece = 0; piece < 4; piece++) {
            c.play(game, turns("0>P 0>P 5>P | 2 | 0>P 0>P 5>P | 2", piece));
            if (piece < 3) {
                c.play(game, turns("0>P 1>P 4>P | 2 | 0>P 1>P 4>P | 2 | 2>P | 2 | 2>P | 2", piece));
            }
        }
        c.play(game, "0>3 1>3 4>3 | 2 | 0>3 5>3 | 2 | 2>3 | 2 | 5>3 | 2");
        return game;
    }

    private static String turns(String script, int piece) {
        return script.replace("P", Integer.toString(piece));
    }
}
