/** The race game of the document: two teams of two players, shells thrown by the caller. */
public final class PachisiYard {
    private static final int PLAYERS = 4;
    private static final int TEAMS = 2;
    private static final int PIECES = 4;

    private static final int SQUARES = 68;
    private static final int SQUARES_A_SIDE = 17;
    private static final int SQUARES_AHEAD_OF_FIRST = 3;
    private static final int FIRST_SAFE = 4;
    private static final int SECOND_SAFE = 11;
    private static final int CASTLE = 2;

    private static final int YARD = 0;
    private static final int ENTRY = 1;
    private static final int CIRCUIT_END = 64;
    private static final int HOME = 72;
    private static final int NOWHERE = -1;
    private static final int CAPTURE_MARK = 100;

    private static final int SHELLS = 6;
    private static final int ALL_WAYS = 64;
    private static final int GRACES_KEPT = 2;
    private static final int MOST_THROWS_ASKED = 3;
    private static final int[] WAYS_BY_MOUTHS = {1, 6, 15, 20, 15, 6, 1};

    private static final int TO_THROW = 0;
    private static final int TO_MOVE = 1;
    private static final int OVER = 2;

    private static final int DO_MOVE = 0;
    private static final int DO_CAPTURE = 1;
    private static final int DO_BRING_HOME = 2;
    private static final int DO_ENTER = 3;

    private final Board board;
    private final int[] captureCounts;
    private int turn;
    private int gracesInRow;
    private int stage;
    private int mouthsThrown;

    public PachisiYard() {
        board = new Board();
        captureCounts = new int[PLAYERS];
        turn = 0;
        gracesInRow = 0;
        stage = TO_THROW;
        mouthsThrown = 0;
    }

    // ---- throwing and moving

    public int throwShells(int mouths) throws IllegalArgumentException, IllegalStateException {
        if (mouths < 0 || mouths > SHELLS) {
            throw new IllegalArgumentException("the mouths up are 0 to 6");
        }
        requireThrowDue();
        int worth = worthOf(mouths);
        if (isGraceTooMany(mouths, gracesInRow)) {
            passTurn();
            return -worth;
        }
        gracesInRow = isGrace(mouths) ? gracesInRow + 1 : 0;
        if (board.movableSet(board.moverFor(turn), mouths) == 0) {
            if (!isGrace(mouths)) {
                passTurn();
            }
            return -worth;
        }
        mouthsThrown = mouths;
        stage = TO_MOVE;
        return worth;
    }

    public int move(int piece) throws IndexOutOfBoundsException, IllegalStateException {
        requirePiece(piece);
        requireMoveDue();
        int player = board.moverFor(turn);
        int target = board.targetOf(player, piece, mouthsThrown);
        if (target == NOWHERE) {
            throw new IllegalStateException("the piece cannot move by the throw");
        }
        boolean capturing = board.isCapture(player, target);
        if (capturing) {
            board.sendToYard(otherTeam(player), board.squareAt(player, target));
            countCapture(turn);
        }
        board.place(player, piece, target);
        endMove(capturing);
        return capturing ? target + CAPTURE_MARK : target;
    }

    public int phase() {
        return stage;
    }

    public int onTurn() {
        return turn;
    }

    public int mover() {
        return board.moverFor(turn);
    }

    public int movable() throws IllegalStateException {
        requireMoveDue();
        return board.movableSet(board.moverFor(turn), mouthsThrown);
    }

    public int graces() {
        return gracesInRow;
    }

    // ---- the board

    public int position(int player, int piece) throws IndexOutOfBoundsException {
        requirePlayer(player);
        requirePiece(piece);
        return board.positionOf(player, piece);
    }

    public int square(int player, int piece) throws IndexOutOfBoundsException {
        requirePlayer(player);
        requirePiece(piece);
        return board.squareAt(player, board.positionOf(player, piece));
    }

    public int standing(int square, int team) throws IndexOutOfBoundsException, IllegalArgumentException {
        requireSquare(square);
        requireTeam(team);
        return board.countOn(square, team);
    }

    public boolean isSafe(int square) throws IndexOutOfBoundsException {
        requireSquare(square);
        return isSafeSquare(square);
    }

    public int home(int player) throws IndexOutOfBoundsException {
        requirePlayer(player);
        return board.countHome(player);
    }

    public int captures(int player) throws IndexOutOfBoundsException {
        requirePlayer(player);
        return player >= 0 && player < captureCounts.length ? captureCounts[player] : 0;
    }

    public int winner() {
        return stage == OVER ? teamOf(turn) : -1;
    }

    public int distance(int team) throws IllegalArgumentException {
        requireTeam(team);
        return board.distanceOf(team) + board.distanceOf(team + TEAMS);
    }

    // ---- chances

    public int ways(int what) throws IllegalArgumentException, IllegalStateException {
        if (what < DO_MOVE || what > DO_ENTER) {
            throw new IllegalArgumentException("what is asked for is 0 to 3");
        }
        requireThrowDue();
        int player = board.moverFor(turn);
        int count = 0;
        for (int mouths = 0; mouths <= SHELLS; mouths++) {
            if (!isGraceTooMany(mouths, gracesInRow) && board.canDo(what, player, mouths)) {
                count += waysOf(mouths);
            }
        }
        return count;
    }

    public int threat(int player, int piece, int by) throws IndexOutOfBoundsException, IllegalArgumentException {
        requirePlayer(player);
        requirePiece(piece);
        if (by < 0 || by >= PLAYERS || teamOf(by) == teamOf(player)) {
            throw new IllegalArgumentException("the threat comes from a player of the other team");
        }
        int square = board.squareAt(player, board.positionOf(player, piece));
        int attacker = board.moverFor(by);
        int count = 0;
        for (int mouths = 0; mouths <= SHELLS; mouths++) {
            if (board.canCaptureOn(square, attacker, mouths)) {
                count += waysOf(mouths);
            }
        }
        return count;
    }

    public int captureChance(int throwsLeft) throws IllegalArgumentException, IllegalStateException {
        if (throwsLeft < 1 || throwsLeft > MOST_THROWS_ASKED) {
            throw new IllegalArgumentException("the throws left are 1 to 3");
        }
        requireThrowDue();
        return chanceWithin(throwsLeft, gracesInRow);
    }

    // ---- the wrong arguments and the wrong time

    private static void requirePlayer(int player) {
        if (player < 0 || player >= PLAYERS) {
            throw new IndexOutOfBoundsException("the players are 0 to 3");
        }
    }

    private static void requirePiece(int piece) {
        if (piece < 0 || piece >= PIECES) {
            throw new IndexOutOfBoundsException("the pieces are 0 to 3");
        }
    }

    private static void requireSquare(int square) {
        if (square < 0 || square >= SQUARES) {
            throw new IndexOutOfBoundsException("the squares are 0 to 67");
        }
    }

    private static void requireTeam(int team) {
        if (team < 0 || team >= TEAMS) {
            throw new IllegalArgumentException("the teams are 0 and 1");
        }
    }

    private void requireThrowDue() {
        if (stage != TO_THROW) {
            throw new IllegalStateException("no throw is to be made");
        }
    }

    private void requireMoveDue() {
        if (stage != TO_MOVE) {
            throw new IllegalStateException("there is no throw to move by");
        }
    }

    // ---- the turn

    private void passTurn() {
        turn = (turn + 1) % PLAYERS;
        gracesInRow = 0;
    }

    private void endMove(boolean capturing) {
        if (board.isTeamHome(turn)) {
            stage = OVER;
            return;
        }
        stage = TO_THROW;
        if (!capturing && !isGrace(mouthsThrown)) {
            passTurn();
        }
    }

    private void countCapture(int player) {
        if (player >= 0 && player < captureCounts.length) {
            captureCounts[player]++;
        }
    }

    // ---- the chance to capture, in units of 1 / 64 to the power of the throws left

    private int chanceWithin(int throwsLeft, int graceRow) {
        if (throwsLeft <= 0) {
            return 0;
        }
        int chance = 0;
        for (int mouths = 0; mouths <= SHELLS; mouths++) {
            chance += waysOf(mouths) * chanceAfter(mouths, throwsLeft - 1, graceRow);
        }
        return chance;
    }

    private int chanceAfter(int mouths, int throwsLeft, int graceRow) {
        if (isGraceTooMany(mouths, graceRow)) {
            return 0;
        }
        if (board.canDo(DO_CAPTURE, board.moverFor(turn), mouths)) {
            return certainty(throwsLeft);
        }
        // Without a capture only a grace keeps the turn, and no throw left needs no look at the moves.
        if (!isGrace(mouths) || throwsLeft <= 0) {
            return 0;
        }
        return chanceAfterGrace(mouths, throwsLeft, graceRow + 1);
    }

    private int chanceAfterGrace(int mouths, int throwsLeft, int graceRow) {
        int player = board.moverFor(turn);
        if (board.movableSet(player, mouths) == 0) {
            return chanceWithin(throwsLeft, graceRow);
        }
        int best = 0;
        for (int piece = 0; piece < PIECES; piece++) {
            int target = board.targetOf(player, piece, mouths);
            if (target != NOWHERE) {
                int start = board.positionOf(player, piece);
                // The move is tried on the board itself and taken back: copies of it would fill the room.
                board.place(player, piece, target);
                best = Math.max(best, chanceWithin(throwsLeft, graceRow));
                board.place(player, piece, start);
            }
        }
        return best;
    }

    private static int certainty(int throwsLeft) {
        int units = 1;
        for (int left = throwsLeft; left > 0; left--) {
            units *= ALL_WAYS;
        }
        return units;
    }

    // ---- players, throws and squares

    private static int teamOf(int player) {
        return player % TEAMS;
    }

    private static int otherTeam(int player) {
        return 1 - player % TEAMS;
    }

    private static int partnerOf(int player) {
        return (player + TEAMS) % PLAYERS;
    }

    private static int worthOf(int mouths) {
        if (mouths == 0) {
            return 25;
        }
        return mouths == 1 ? 10 : mouths;
    }

    private static boolean isGrace(int mouths) {
        return mouths <= 1 || mouths == SHELLS;
    }

    private static boolean isGraceTooMany(int mouths, int graceRow) {
        return isGrace(mouths) && graceRow >= GRACES_KEPT;
    }

    private static int waysOf(int mouths) {
        return mouths >= 0 && mouths < WAYS_BY_MOUTHS.length ? WAYS_BY_MOUTHS[mouths] : 0;
    }

    private static boolean isSafeSquare(int square) {
        int onSide = square % SQUARES_A_SIDE;
        return onSide == FIRST_SAFE || onSide == SECOND_SAFE;
    }

    /** Where the pieces are, and where a throw can bring them. */
    private static final class Board {
        private final int[] positions;
        // Kept beside the positions, as every square of a way is asked for its castle.
        private final int[] counts;

        Board() {
            positions = new int[PLAYERS * PIECES];
            counts = new int[TEAMS * SQUARES];
        }

        int positionOf(int player, int piece) {
            int index = player * PIECES + piece;
            return index >= 0 && index < positions.length ? positions[index] : YARD;
        }

        int squareAt(int player, int position) {
            if (position < ENTRY || position > CIRCUIT_END) {
                return NOWHERE;
            }
            return (SQUARES_A_SIDE * player + SQUARES_AHEAD_OF_FIRST + position) % SQUARES;
        }

        int countOn(int square, int team) {
            int index = team * SQUARES + square;
            return square >= 0 && index >= 0 && index < counts.length ? counts[index] : 0;
        }

        int countHome(int player) {
            int count = 0;
            for (int piece = 0; piece < PIECES; piece++) {
                if (positionOf(player, piece) == HOME) {
                    count++;
                }
            }
            return count;
        }

        int distanceOf(int player) {
            int sum = 0;
            for (int piece = 0; piece < PIECES; piece++) {
                sum += HOME - positionOf(player, piece);
            }
            return sum;
        }

        boolean isTeamHome(int player) {
            return countHome(player) == PIECES && countHome(partnerOf(player)) == PIECES;
        }

        int moverFor(int player) {
            return countHome(player) == PIECES ? partnerOf(player) : player;
        }

        void place(int player, int piece, int position) {
            int index = player * PIECES + piece;
            if (index < 0 || index >= positions.length) {
                return;
            }
            addOn(squareAt(player, positions[index]), teamOf(player), -1);
            positions[index] = position;
            addOn(squareAt(player, position), teamOf(player), 1);
        }

        private void addOn(int square, int team, int pieces) {
            int index = team * SQUARES + square;
            if (square >= 0 && index >= 0 && index < counts.length) {
                counts[index] += pieces;
            }
        }

        void sendToYard(int team, int square) {
            for (int player = team; player < PLAYERS; player += TEAMS) {
                for (int piece = 0; piece < PIECES; piece++) {
                    if (squareAt(player, positionOf(player, piece)) == square) {
                        place(player, piece, YARD);
                    }
                }
            }
        }

        /** The position that a throw brings a piece to, or NOWHERE if it cannot move by it. */
        int targetOf(int player, int piece, int mouths) {
            int start = positionOf(player, piece);
            if (start == HOME || (start == YARD && !isGrace(mouths))) {
                return NOWHERE;
            }
            int target = start == YARD ? ENTRY : start + worthOf(mouths);
            if (target > HOME || !isWayFree(player, start, target)) {
                return NOWHERE;
            }
            boolean sheltered = isCapture(player, target) && isSafeSquare(squareAt(player, target));
            return sheltered ? NOWHERE : target;
        }

        private boolean isWayFree(int player, int start, int target) {
            int last = Math.min(target, CIRCUIT_END);
            for (int position = start + 1; position <= last; position++) {
                if (countOn(squareAt(player, position), otherTeam(player)) >= CASTLE) {
                    return false;
                }
            }
            return true;
        }

        boolean isCapture(int player, int target) {
            return countOn(squareAt(player, target), otherTeam(player)) == 1;
        }

        int movableSet(int player, int mouths) {
            int set = 0;
            for (int piece = 0; piece < PIECES; piece++) {
                if (targetOf(player, piece, mouths) != NOWHERE) {
                    set |= 1 << piece;
                }
            }
            return set;
        }

        boolean canDo(int what, int player, int mouths) {
            for (int piece = 0; piece < PIECES; piece++) {
                int target = targetOf(player, piece, mouths);
                if (target != NOWHERE && isDone(what, player, target)) {
                    return true;
                }
            }
            return false;
        }

        private boolean isDone(int what, int player, int target) {
            switch (what) {
                case DO_MOVE:
                    return true;
                case DO_CAPTURE:
                    return isCapture(player, target);
                case DO_BRING_HOME:
                    return target == HOME;
                case DO_ENTER:
                    // Every throw leads a piece on the circuit past this position, so it has come from the yard.
                    return target == ENTRY;
                default:
                    return false;
            }
        }

        boolean canCaptureOn(int square, int player, int mouths) {
            for (int piece = 0; piece < PIECES; piece++) {
                int target = targetOf(player, piece, mouths);
                if (target != NOWHERE && isCapture(player, target) && squareAt(player, target) == square) {
                    return true;
                }
            }
            return false;
        }
    }
}
