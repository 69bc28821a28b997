import java.util.Random;

/** Plays many games, the same ones at every run, beside the model, and compares every answer. */
final class ModelTest {
    private static final int GAMES = 4000;
    private static final int CALLS_OF_AN_OBJECT = 512;
    private static final String[] QUESTIONS = {"phase", "onTurn", "mover", "movable", "graces", "position", "square",
            "standing", "isSafe", "home", "captures", "winner", "distance", "ways", "threat", "captureChance"};
    // The players that get falls to race home by, bit p for player p; until they are home the others get small ones.
    private static final int[] RACERS = {0, 5, 10, 15, 1, 2, 4, 8};
    private static final int[] EXTREMES = {Integer.MIN_VALUE, -1, 4, 68, Integer.MAX_VALUE};

    private final Checks checks;
    private final Random random;
    private final PachisiYard game = new PachisiYard();
    private final Model model = new Model();
    private final StringBuilder told = new StringBuilder();
    private final int racers;
    private final boolean eager;
    private final int questionsAStep;
    private int calls = 0;

    private static int over = 0;
    private static int captured = 0;
    private static int capturedForPartner = 0;
    private static int chances = 0;
    private static int chancesForPartner = 0;
    private static int moverChanges = 0;

    private ModelTest(Checks checks, int seed) {
        this.checks = checks;
        random = new Random(seed);
        racers = RACERS[seed % RACERS.length];
        eager = seed % 3 == 0;
        questionsAStep = racers == 0 ? 6 : seed % 5 == 0 ? 0 : 1;
    }

    public static void main(String[] args) {
        Checks checks = new Checks();
        for (int seed = 0; seed < GAMES; seed++) {
            new ModelTest(checks, seed).play();
        }
        System.out.println("games over " + over + ", captures " + captured + ", for the partner " + capturedForPartner
                + ", chances above 0 " + chances + ", for the partner " + chancesForPartner
                + ", movers changed within a turn " + moverChanges);
        checks.due("each kind of scene came up", over > 0 && captured > 0 && capturedForPartner > 0 && chances > 0
                && chancesForPartner > 0 && moverChanges > 0, true);
        checks.end("ModelTest");
    }

    private void play() {
        while (calls < CALLS_OF_AN_OBJECT) {
            for (int k = 0; k < questionsAStep || model.phase == 2 && k < 20; k++) {
                askSomething();
            }
            if (random.nextInt(12) == 0) {
                askWrongly();
            }
            step();
        }
    }

    private void step() {
        if (model.phase == 0) {
            call("throwShells", pickMouths(), 0, 0);
        } else if (model.phase == 1) {
            int turn = model.turn;
            int mover = model.mover();
            int before = model.taken[turn];
            call("move", pickPiece(), 0, 0);
            captured += model.taken[turn] - before;
            capturedForPartner += mover != turn ? model.taken[turn] - before : 0;
            moverChanges += model.phase == 0 && model.turn == turn && model.mover() != mover ? 1 : 0;
            over += model.phase == 2 ? 1 : 0;
        } else {
            call("throwShells", random.nextInt(7), 0, 0);
            call("move", random.nextInt(4), 0, 0);
        }
    }

    private int pickMouths() {
        boolean racing = isRacing();
        if (eager && !racing && random.nextInt(3) > 0) {
            for (int mouths = 0; mouths <= 6; mouths++) {
                if (captures(mouths)) {
                    return mouths;
                }
            }
        }
        if (!racing) {
            return random.nextInt(7);
        }
        return (racers >> model.turn & 1) == 1 ? pickMouthsThatMove() : 2 + random.nextInt(4);
    }

    private boolean isRacing() {
        for (int player = 0; player < 4; player++) {
            if ((racers >> player & 1) == 1 && model.home(player) < 4) {
                return true;
            }
        }
        return false;
    }

    /** A great fall mostly, by which a piece goes on; never to position 71, which no throw leads away from. */
    private int pickMouthsThatMove() {
        for (int mouths : new int[] {0, 1, 6, 5, 4, 3, 2}) {
            Model thrown = model.copy();
            if (thrown.fall(mouths) > 0 && random.nextInt(6) > 0
                    && thrown.copy().go(furthest(thrown, thrown.set())) != 71) {
                return mouths;
            }
        }
        return 2 + random.nextInt(4);
    }

    private boolean captures(int mouths) {
        Model thrown = model.copy();
        if (thrown.fall(mouths) < 0) {
            return false;
        }
        for (int piece = 0; piece < 4; piece++) {
            if ((thrown.set() >> piece & 1) == 1 && thrown.copy().go(piece) > 100) {
                return true;
            }
        }
        return false;
    }

    private int pickPiece() {
        int set = model.set();
        if (eager || random.nextInt(3) == 0) {
            for (int piece = 0; piece < 4; piece++) {
                if ((set >> piece & 1) == 1 && model.copy().go(piece) > 100) {
                    return piece;
                }
            }
        }
        if (isRacing() && random.nextInt(50) > 0) {
            return furthest(model, set);
        }
        int piece = random.nextInt(4);
        return (set >> piece & 1) == 1 || random.nextInt(10) == 0 ? piece : Integer.numberOfTrailingZeros(set);
    }

    private static int furthest(Model model, int set) {
        int best = Integer.numberOfTrailingZeros(set);
        int mover = model.mover();
        for (int piece = 0; piece < 4; piece++) {
            if ((set >> piece & 1) == 1 && model.at[mover][piece] > model.at[mover][best]) {
                best = piece;
            }
        }
        return best;
    }

    private void askSomething() {
        String question = QUESTIONS[random.nextInt(QUESTIONS.length)];
        int most = question.equals("standing") || question.equals("isSafe") ? 68 : 4;
        call(question, random.nextInt(most), random.nextInt(question.equals("standing") ? 2 : 4), random.nextInt(4));
    }

    private void askWrongly() {
        int which = random.nextInt(QUESTIONS.length + 2);
        boolean playing = which >= QUESTIONS.length;
        String question = !playing ? QUESTIONS[which] : which == QUESTIONS.length ? "move" : "throwShells";
        int wrong = EXTREMES[random.nextInt(EXTREMES.length)];
        int side = random.nextInt(7);
        call(question, playing || (side & 1) == 0 ? wrong : random.nextInt(4),
                (side & 2) == 0 ? wrong : random.nextInt(4), (side & 4) == 0 ? wrong : random.nextInt(4));
    }

    private void call(String name, int a, int b, int c) {
        if (calls == CALLS_OF_AN_OBJECT) {
            return;
        }
        calls++;
        boolean partner = model.mover() != model.turn;
        String want = model.answer(name, a, b, c);
        String got = answerOfTheGame(name, a, b, c);
        told.append(name).append('(').append(a).append(',').append(b).append(',').append(c).append(") ");
        if (name.equals("captureChance") && Character.isDigit(want.charAt(0)) && !want.equals("0")) {
            chances++;
            chancesForPartner += partner ? 1 : 0;
        }
        boolean same = got.equals(want);
        checks.due(same ? name : told + "= " + got + ", the model has " + want + "; same", same, true);
    }

    private String answerOfTheGame(String name, int a, int b, int c) {
        try {
            return Long.toString(numberOfTheGame(name, a, b, c));
        } catch (RuntimeException e) {
            return e.getClass().getSimpleName();
        }
    }

    private long numberOfTheGame(String name, int a, int b, int c) {
        switch (name) {
            case "throwShells": return game.throwShells(a);
            case "move": return game.move(a);
            case "phase": return game.phase();
            case "onTurn": return game.onTurn();
            case "mover": return game.mover();
            case "movable": return game.movable();
            case "graces": return game.graces();
            case "position": return game.position(a, b);
            case "square": return game.square(a, b);
            case "standing": return game.standing(a, b);
            case "isSafe": return game.isSafe(a) ? 1 : 0;
            case "home": return game.home(a);
            case "captures": return game.captures(a);
            case "winner": return game.winner();
            case "distance": return game.distance(a);
            case "ways": return game.ways(a);
            case "threat": return game.threat(a, b, c);
            case "captureChance": return game.captureChance(a);
            default: throw new AssertionError(name);
        }
    }
}
