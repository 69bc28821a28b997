/**
 * A second telling of the document's rules, for comparison alone: it keeps only positions, looks for every castle
 * among all pieces, and finds chances by playing every throw and move on copies.
 * A call answers a text: the number, or the name of the exception.
 */
final class Model {
    static final String BOUNDS = "IndexOutOfBoundsException";
    static final String ARGUMENT = "IllegalArgumentException";
    static final String STATE = "IllegalStateException";
    private static final int[] WORTH = {25, 10, 2, 3, 4, 5, 6};
    private static final int[] WAYS = {1, 6, 15, 20, 15, 6, 1};

    final int[][] at = new int[4][4];
    final int[] taken = new int[4];
    int turn = 0;
    int row = 0;
    int phase = 0;
    int fallen = 0;

    Model copy() {
        Model other = new Model();
        for (int player = 0; player < 4; player++) {
            other.at[player] = at[player].clone();
            other.taken[player] = taken[player];
        }
        other.turn = turn;
        other.row = row;
        other.phase = phase;
        other.fallen = fallen;
        return other;
    }

    String answer(String call, int a, int b, int c) {
        switch (call) {
            case "throwShells":
                return a < 0 || a > 6 ? ARGUMENT : phase != 0 ? STATE : "" + fall(a);
            case "move":
                return a < 0 || a > 3 ? BOUNDS : phase != 1 || !goes(a) ? STATE : "" + go(a);
            case "phase":
                return "" + phase;
            case "onTurn":
                return "" + turn;
            case "mover":
                return "" + mover();
            case "movable":
                return phase != 1 ? STATE : "" + set();
            case "graces":
                return "" + row;
            case "position":
                return isPiece(a, b) ? "" + at[a][b] : BOUNDS;
            case "square":
                return isPiece(a, b) ? "" + square(a, at[a][b]) : BOUNDS;
            case "standing":
                return a < 0 || a > 67 ? BOUNDS : b < 0 || b > 1 ? ARGUMENT : "" + standing(a, b);
            case "isSafe":
                return a < 0 || a > 67 ? BOUNDS : safe(a) ? "1" : "0";
            case "home":
                return a < 0 || a > 3 ? BOUNDS : "" + home(a);
            case "captures":
                return a < 0 || a > 3 ? BOUNDS : "" + taken[a];
            case "winner":
                return phase != 2 ? "-1" : home(0) == 4 && home(2) == 4 ? "0" : "1";
            case "distance":
                return a < 0 || a > 1 ? ARGUMENT : "" + distance(a);
            case "ways":
                return a < 0 || a > 3 ? ARGUMENT : phase != 0 ? STATE : "" + ways(a);
            case "threat":
                return !isPiece(a, b) ? BOUNDS : c < 0 || c > 3 || (a + c) % 2 == 0 ? ARGUMENT : "" + threat(a, b, c);
            case "captureChance":
                return a < 1 || a > 3 ? ARGUMENT : phase != 0 ? STATE : "" + chance(a, turn);
            default:
                throw new IllegalArgumentException(call);
        }
    }

    private static boolean isPiece(int player, int piece) {
        return player >= 0 && player <= 3 && piece >= 0 && piece <= 3;
    }

    static boolean grace(int mouths) {
        return mouths == 0 || mouths == 1 || mouths == 6;
    }

    private static boolean safe(int square) {
        return square % 17 == 4 || square % 17 == 11;
    }

    private static int square(int player, int position) {
        return position >= 1 && position <= 64 ? (17 * player + 3 + position) % 68 : -1;
    }

    int home(int player) {
        int count = 0;
        for (int position : at[player]) {
            count += position == 72 ? 1 : 0;
        }
        return count;
    }

    int mover() {
        return home(turn) == 4 ? (turn + 2) % 4 : turn;
    }

    private int standing(int square, int team) {
        int count = 0;
        for (int player = 0; player < 4; player++) {
            for (int piece = 0; piece < 4; piece++) {
                count += player % 2 == team && square(player, at[player][piece]) == square ? 1 : 0;
            }
        }
        return count;
    }

    private int distance(int team) {
        int sum = 8 * 72;
        for (int player = team; player < 4; player += 2) {
            for (int position : at[player]) {
                sum -= position;
            }
        }
        return sum;
    }

    private void nextTurn() {
        turn = turn == 3 ? 0 : turn + 1;
        row = 0;
    }

    int fall(int mouths) {
        fallen = mouths;
        boolean third = grace(mouths) && row == 2;
        row = grace(mouths) ? row + 1 : 0;
        if (!third && set() != 0) {
            phase = 1;
            return WORTH[mouths];
        }
        if (third || !grace(mouths)) {
            nextTurn();
        }
        return -WORTH[mouths];
    }

    int set() {
        int set = 0;
        for (int piece = 0; piece < 4; piece++) {
            set += goes(piece) ? 1 << piece : 0;
        }
        return set;
    }

    private int aim(int piece) {
        int from = at[mover()][piece];
        return from == 0 ? 1 : from + WORTH[fallen];
    }

    private boolean goes(int piece) {
        int me = mover();
        int from = at[me][piece];
        int to = aim(piece);
        if (from == 72 || to > 72 || from == 0 && !grace(fallen)) {
            return false;
        }
        for (int position = from + 1; position <= to && position <= 64; position++) {
            int others = standing(square(me, position), 1 - me % 2);
            if (others > 1 || others == 1 && position == to && safe(square(me, position))) {
                return false;
            }
        }
        return true;
    }

    int go(int piece) {
        int me = mover();
        int to = aim(piece);
        boolean capture = false;
        for (int player = 1 - me % 2; player < 4; player += 2) {
            for (int other = 0; other < 4; other++) {
                if (to <= 64 && square(player, at[player][other]) == square(me, to)) {
                    at[player][other] = 0;
                    capture = true;
                }
            }
        }
        at[me][piece] = to;
        taken[turn] += capture ? 1 : 0;
        phase = 0;
        if (home(me) + home((me + 2) % 4) == 8) {
            phase = 2;
        } else if (!capture && !grace(fallen)) {
            nextTurn();
        }
        return capture ? 100 + to : to;
    }

    private boolean canDo(int what, int mouths) {
        Model thrown = copy();
        if (thrown.fall(mouths) < 0) {
            return false;
        }
        for (int piece = 0; piece < 4; piece++) {
            if (thrown.goes(piece)) {
                int answer = thrown.copy().go(piece);
                boolean entered = at[mover()][piece] == 0;
                if (what == 0 || what == 1 && answer > 100 || what == 2 && answer == 72 || what == 3 && entered) {
                    return true;
                }
            }
        }
        return false;
    }

    private int ways(int what) {
        int count = 0;
        for (int mouths = 0; mouths <= 6; mouths++) {
            count += canDo(what, mouths) ? WAYS[mouths] : 0;
        }
        return count;
    }

    private int threat(int player, int piece, int by) {
        int count = 0;
        for (int mouths = 0; mouths <= 6 && at[player][piece] > 0; mouths++) {
            Model thrown = copy();
            thrown.turn = by;
            thrown.row = 0;
            thrown.phase = 0;
            thrown.fall(mouths);
            boolean hit = false;
            for (int other = 0; other < 4 && thrown.phase == 1; other++) {
                if (thrown.goes(other)) {
                    Model moved = thrown.copy();
                    moved.go(other);
                    hit |= moved.at[player][piece] == 0;
                }
            }
            count += hit ? WAYS[mouths] : 0;
        }
        return count;
    }

    private long chance(int throwsLeft, int player) {
        if (throwsLeft == 0 || turn != player || phase == 2) {
            return 0;
        }
        long sum = 0;
        for (int mouths = 0; mouths <= 6; mouths++) {
            Model thrown = copy();
            thrown.fall(mouths);
            long best = thrown.phase == 0 ? thrown.chance(throwsLeft - 1, player) : 0;
            for (int piece = 0; piece < 4 && thrown.phase == 1; piece++) {
                if (thrown.goes(piece)) {
                    Model moved = thrown.copy();
                    boolean capture = moved.go(piece) > 100;
                    long sure = Math.round(Math.pow(64, throwsLeft - 1));
                    best = Math.max(best, capture ? sure : moved.chance(throwsLeft - 1, player));
                }
            }
            sum += WAYS[mouths] * best;
        }
        return sum;
    }
}
