import java.util.Random;

/**
 * Random runs of 512 calls, each answer held against the one of the plain model. What lookAtAll() asks
 * between them comes on top: the program counts no calls.
 */
final class RandomRunsTest {
    private static final int RUNS = 1500;

    /** From this style on divers bring stacks home, so that the path becomes short. */
    private static final int BRINGING = 4;
    private static final int STYLES = 6;
    private static final int CALLS = 512;
    private static final String LETTERS = "dutnl012345x !~D";

    private final Random random;
    private final TankDivers game = new TankDivers();
    private final PlainModel model = new PlainModel();
    private int call = 0;
    private boolean wrong = false;
    private boolean crowded = false;

    private RandomRunsTest(long seed) {
        random = new Random(seed);
    }

    public static void main(String[] args) {
        Due due = new Due();
        int crowded = 0;
        for (int run = 0; run < RUNS; run++) {
            RandomRunsTest test = new RandomRunsTest(run);
            due.so("run " + run, test.holds());
            crowded += test.crowded ? 1 : 0;
        }
        due.so("in some runs a path had fewer spaces than divers", crowded > 20);
        due.end();
    }

    private boolean holds() {
        int style = random.nextInt(STYLES);
        for (call = 0; call < CALLS && !wrong; call++) {
            int kind = random.nextInt(style < BRINGING ? 100 : 400);
            if (kind < 55 || kind >= 100) {
                act(style);
            } else if (kind < 65) {
                text();
            } else if (kind < 75) {
                past();
            } else {
                look();
            }
            if (call % 16 == 15) {
                lookAtAll();
            }
            crowded |= model.count(1) < model.count(0) && model.count(2) < 3;
        }
        return !wrong;
    }

    private void lookAtAll() {
        for (int what = -1; what <= 16; what++) {
            compare("count(" + what + ")", game.count(what), model.count(what));
        }
        for (int diver = -1; diver <= 4; diver++) {
            for (int what = -1; what <= 9; what++) {
                compare("diver(" + diver + ", " + what + ")", game.diver(diver, what), model.diver(diver, what));
            }
            for (int stack = -1; stack <= 6; stack++) {
                for (int what = 0; what <= 3; what++) {
                    compare("stack(" + diver + ", " + stack + ", " + what + ")",
                            game.stack(diver, stack, what), model.stack(diver, stack, what));
                }
            }
        }
        for (int space = 0; space <= 17; space++) {
            for (int what = 0; what <= 2; what++) {
                compare("space(" + space + ", " + what + ")", game.space(space, what), model.space(space, what));
            }
        }
    }

    private void compare(String what, double got, double want) {
        if (got != want && !wrong) {
            wrong = true;
            System.out.println("call " + call + ", " + what + " answered " + got + ", due is " + want);
        }
    }

    private void act(int style) {
        if (random.nextInt(style >= BRINGING && model.count(4) == 2 ? 3 : 150) == 0) {
            int divers = 1 + random.nextInt(5);
            int x = random.nextInt(10200) - 100;
            compare("begin(" + divers + ", " + x + ")", game.begin(divers, x), model.begin(divers, x));
        } else if (model.count(4) == 1 ? random.nextInt(20) > 0 : random.nextInt(20) == 0) {
            deed(style);
        } else {
            boolean back = back(style);
            compare("move(" + back + ")", game.move(back), model.move(back));
        }
    }

    private boolean back(int style) {
        int diver = model.count(3);
        if (style < BRINGING || diver < 0 || random.nextInt(20) == 0) {
            return random.nextInt(style == 0 ? 20 : 4) == 0 && random.nextInt(10) < 8;
        }
        boolean canTurn = model.diver(diver, 0) > 0 && model.diver(diver, 1) == 0;
        return canTurn && model.count(2) > 0 && model.diver(diver, 3) > random.nextInt(style - BRINGING + 1);
    }

    private void deed(int style) {
        int kind = random.nextInt(10);
        if (kind < 4 + style || style >= BRINGING && kind < 9) {
            compare("take()", game.take(), model.take());
        } else if (kind < 7) {
            int stack = random.nextInt(8) - 1;
            compare("lay(" + stack + ")", game.lay(stack), model.lay(stack));
        } else {
            compare("nothing()", game.nothing(), model.nothing());
        }
    }

    private void text() {
        if (random.nextInt(5) == 0) {
            compare("clear()", game.clear(), model.clear());
        }
        String text = random.nextInt(3) == 0 ? anyText() : turns();
        for (int i = 0; i < text.length(); i++) {
            int code = text.charAt(i);
            compare("append(" + code + ")", game.append(code), model.append(code));
        }
        compare("fault()", game.fault(), model.fault());
        compare("play()", game.play(), model.play());
        int what = random.nextInt(4) - 1;
        compare("why(" + what + ")", game.why(what), model.why(what));
    }

    private String anyText() {
        StringBuilder text = new StringBuilder();
        for (int i = random.nextInt(6); i >= 0; i--) {
            text.append(LETTERS.charAt(random.nextInt(LETTERS.length())));
        }
        return text.toString();
    }

    private String turns() {
        StringBuilder text = new StringBuilder();
        for (int i = random.nextInt(5); i >= 0; i--) {
            text.append(random.nextInt(4) == 0 ? 'u' : 'd');
            int deed = random.nextInt(6);
            text.append(deed < 3 ? "t" : deed < 5 ? "n" : "l" + random.nextInt(6));
        }
        return text.toString();
    }

    private void past() {
        switch (random.nextInt(5)) {
            case 0 -> compare("save()", game.save(), model.save());
            case 1 -> compare("restore()", game.restore(), model.restore());
            default -> compare("undo()", game.undo(), model.undo());
        }
    }

    private void look() {
        int a = random.nextInt(6) - 1;
        int b = random.nextInt(8) - 1;
        int c = random.nextInt(6) - 1;
        int place = random.nextInt(19) - 1;
        boolean back = random.nextBoolean();
        switch (random.nextInt(9)) {
            case 0 -> {
                int what = random.nextInt(11) - 1;
                compare("diver(" + a + ", " + what + ")", game.diver(a, what), model.diver(a, what));
            }
            case 1 -> compare("stack(" + a + ", " + b + ", " + c + ")", game.stack(a, b, c), model.stack(a, b, c));
            case 2 -> compare("space(" + place + ", " + c + ")", game.space(place, c), model.space(place, c));
            case 3 -> {
                int what = random.nextInt(18) - 1;
                compare("count(" + what + ")", game.count(what), model.count(what));
            }
            case 4 -> compare("leader()", game.leader(), model.leader());
            case 5 -> compare("chances(" + place + ", " + back + ", " + c + ")",
                    game.chances(place, back, c), model.chances(place, back, c));
            case 6 -> {
                int moves = random.nextInt(random.nextInt(10) == 0 ? 9 : 5) - 1;
                compare("homeward(" + moves + ")", game.homeward(moves), model.homeward(moves));
            }
            case 7 -> compare("used()", game.used(), model.used());
            default -> compare("brought()", game.brought(), model.brought());
        }
    }
}
