/** Promises 17 to 20: chances, homeward, used, brought. */
final class OddsTest {
    private static final Due DUE = new Due();

    private OddsTest() {
    }

    public static void main(String[] args) {
        wrongArguments();
        fromTheShip();
        overOthers();
        upwards();
        withStacks();
        refusedMoves();
        homewardOfOne();
        homewardOfMore();
        homewardOverOthers();
        homewardFromTheEnd();
        homewardNotPossible();
        used();
        brought();
        whatIsToldComesTrue();
        DUE.end();
    }

    private static void chances(TankDivers game, boolean back, int... want) {
        for (int place = 0; place <= game.count(1); place++) {
            int due = place < want.length ? want[place] : 0;
            DUE.is("chances(" + place + ", " + back + ", 0)", game.chances(place, back, 0), due);
            DUE.is("chances(" + place + ", " + back + ", 1)", game.chances(place, back, 1), due);
        }
    }

    private static void wrongArguments() {
        TankDivers game = new TankDivers();
        int[][] wrong = {{-1, 0}, {17, 0}, {0, -1}, {0, 2}, {Integer.MIN_VALUE, 1}, {Integer.MAX_VALUE, 1},
            {3, Integer.MIN_VALUE}, {3, Integer.MAX_VALUE}};
        for (int[] arguments : wrong) {
            String call = arguments[0] + ", .., " + arguments[1];
            DUE.is(call, game.chances(arguments[0], false, arguments[1]), -1);
            DUE.is("INVALID_ARGUMENT rather than NOT_POSSIBLE " + call,
                    game.chances(arguments[0], true, arguments[1]), -1);
        }
        DUE.is("the last space", game.chances(16, false, 1), 0);
        int[] moves = {0, 7, -1, Integer.MIN_VALUE, Integer.MAX_VALUE};
        for (int number : moves) {
            DUE.is("homeward(" + number + ")", game.homeward(number), -1);
        }
    }

    private static void fromTheShip() {
        chances(new TankDivers(), false, 0, 0, 1, 2, 3, 2, 1);
    }

    private static void overOthers() {
        TankDivers game = Table.showing(3, 3, 4);
        game.move(false);
        game.nothing();
        chances(game, false, 0, 0, 1, 0, 2, 3, 2, 1);
        game.move(false);
        game.nothing();
        DUE.is("1 stepped over 0", game.diver(1, 0), 5);
        chances(game, false, 0, 0, 1, 0, 2, 0, 3, 2, 1);
    }

    /** The diver 0 is on 4, the diver 1 on 2: upwards are 3, 1 and the ship. */
    private static void upwards() {
        TankDivers game = Table.showing(2, 4, 2);
        game.move(false);
        game.nothing();
        game.move(false);
        game.nothing();
        chances(game, true, 8, 1);
        chances(game, false, 0, 0, 0, 0, 0, 0, 1, 2, 3, 2, 1);
        TankDivers deep = Table.showing(2, 6, 2, 2);
        deep.move(false);
        deep.nothing();
        deep.move(false);
        deep.nothing();
        chances(deep, true, 3, 3, 0, 2, 1);
        deep.move(true);
        DUE.is("by two", deep.diver(0, 0), 4);
        deep.nothing();
        deep.move(false);
        deep.nothing();
        if (deep.diver(1, 0) > 4) {
            chances(deep, false, 6, 2, 1);
        }
        DUE.is("not twice", deep.chances(0, true, 0), -2);
    }

    private static void withStacks() {
        TankDivers game = Table.showing(2, 4, 3, 2, 6, 4, 5, 2);
        Table.play(game, "dtdndtdn");
        DUE.is("two stacks", game.diver(0, 3), 2);
        DUE.is("on 5, the other one on 10", game.diver(0, 0) * 100 + game.diver(1, 0), 510);
        chances(game, false, 0, 0, 0, 0, 0, 1, 2, 3, 2, 1);
        chances(game, true, 0, 1, 2, 3, 2, 1);
        Table.play(game, "dtdn");
        DUE.is("three stacks", game.diver(0, 3), 3);
        chances(game, false, 0, 0, 0, 0, 0, 0, 0, 3, 3, 2, 1);
        chances(game, true, 0, 0, 0, 0, 1, 2, 3, 3);
    }

    private static void refusedMoves() {
        TankDivers game = Table.showing(2, 6);
        DUE.is("in the ship", game.chances(0, true, 0), -2);
        DUE.is("in the ship, told the other way", game.chances(0, true, 1), -2);
        game.move(false);
        DUE.is("time for a deed", game.chances(0, false, 0), -2);
        DUE.is("time for a deed", game.chances(0, true, 1), -2);
        DUE.is("it is not counted", game.count(12), 0);
    }

    /** The diver 0 is on 4, without stacks, the diver 1 deeper. */
    private static void homewardOfOne() {
        TankDivers game = Table.showing(2, 4, 6);
        game.move(false);
        game.nothing();
        game.move(false);
        game.nothing();
        DUE.is("4 or more of 9", game.homeward(1), 6);
        DUE.is("two moves", game.homeward(2), 81);
        int all = 81;
        for (int moves = 3; moves <= 6; moves++) {
            all *= 9;
            DUE.is("homeward(" + moves + ")", game.homeward(moves), all);
        }
    }

    /** With three stacks on 7 a move leads 0, 1, 2 or 3 steps up, in 3, 3, 2 and 1 of nine throws. */
    private static void homewardOfMore() {
        TankDivers game = Table.showing(2, 4, 3, 2, 6, 4, 5, 2);
        Table.play(game, "dtdndtdndtdn");
        DUE.is("on 7", game.diver(0, 0), 7);
        DUE.so("the other one is deeper", game.diver(1, 0) > 7);
        int[] steps = {3, 3, 2, 1};
        long[] ways = {1, 0, 0, 0, 0, 0, 0, 0};
        for (int moves = 1; moves <= 6; moves++) {
            long[] next = new long[8];
            for (int gone = 0; gone <= 7; gone++) {
                for (int step = 0; step < 9; step++) {
                    int far = step < 3 ? 0 : step < 6 ? 1 : step < 8 ? 2 : 3;
                    next[Math.min(7, gone + far)] += ways[gone];
                }
            }
            ways = next;
            DUE.is("homeward(" + moves + ")", game.homeward(moves), ways[7]);
        }
        DUE.is("three moves: 3 and 3 and 1 or more, 2 and 2 and 3, 3 and 2 and 2", game.homeward(3),
                3 * (steps[3] * steps[3] * steps[1]) + 3 * (steps[3] * steps[2] * steps[2])
                + 3 * (steps[3] * steps[3] * steps[2]) + steps[3]);
    }

    private static void homewardOverOthers() {
        TankDivers game = Table.showing(2, 6, 2);
        game.move(false);
        game.nothing();
        game.move(false);
        game.nothing();
        DUE.is("6 to the ship are 5, over 2", game.homeward(1), 3);
        TankDivers back = Table.showing(2, 6, 2, 2);
        back.move(false);
        back.nothing();
        back.move(false);
        back.nothing();
        back.move(true);
        back.nothing();
        back.move(false);
        back.nothing();
        DUE.is("on 4, going up already", back.diver(0, 0) * 10 + back.diver(0, 1), 41);
        DUE.is("without turning back again", back.homeward(1), back.diver(1, 0) > 4 ? 6 : 8);
        DUE.is("two moves", back.homeward(2), 81);
    }

    /** From 16, over the other one: 15 steps, by moves of 2 to 6 steps. */
    private static void homewardFromTheEnd() {
        TankDivers game = new TankDivers();
        for (int i = 0; i < 40 || game.diver(game.count(3), 0) != 16; i++) {
            game.move(false);
            game.nothing();
        }
        DUE.is("the other one", game.diver(1 - game.count(3), 0), 15);
        long[] ways = {1};
        for (int moves = 1; moves <= 6; moves++) {
            long[] next = new long[ways.length + 6];
            for (int gone = 0; gone < ways.length; gone++) {
                for (int step = 2; step <= 6; step++) {
                    next[gone + step] += ways[gone] * (3 - Math.abs(step - 4));
                }
            }
            ways = next;
            long home = 0;
            for (int gone = 15; gone < ways.length; gone++) {
                home += ways[gone];
            }
            DUE.is("homeward(" + moves + ")", game.homeward(moves), home);
        }
    }

    private static void homewardNotPossible() {
        TankDivers game = Table.showing(2, 4, 2);
        DUE.is("in the ship", game.homeward(1), -2);
        game.move(false);
        DUE.is("time for a deed", game.homeward(1), -2);
        game.nothing();
        DUE.is("the next one is in the ship", game.homeward(6), -2);
        DUE.is("it is not counted", game.count(12), 0);
    }

    private static void used() {
        TankDivers game = Table.showing(3, 2, 3, 4, 5);
        DUE.is("nobody has a stack", game.used(), 0);
        Table.play(game, "dtdtdt");
        DUE.is("three stacks", game.used(), 3);
        game.move(true);
        DUE.is("0 is home", game.diver(0, 2), 1);
        DUE.is("without the one who is home", game.used(), 2);
        DUE.is("though the stack is still there", game.diver(0, 3), 1);
        DUE.is("begin() tells all values though there are stacks", game.begin(2, 3), 120);
    }

    private static void brought() {
        int x = Table.lotFor(4, 2, 6, 6);
        TankDivers game = Table.showing(2, 4, 2, 6, 6);
        DUE.real("nothing yet", game.brought(), 0.0);
        Table.play(game, "dtdtun");
        DUE.real("not before the end of the round", game.brought(), 0.0);
        Table.play(game, "un");
        DUE.so("something is brought", game.brought() > 0.0);
        Table.play(game, "dtdt");
        DUE.so("and others have stacks", game.count(8) > 0);
        DUE.real("both treasures", game.brought(), (Table.valueAt(x, 2) + Table.valueAt(x, 4)) / 120.0);
        game.begin(2, 0);
        DUE.real("nothing in this game", game.brought(), 0.0);
    }

    /** Nine games whose first throws are all nine throws of two dice end as the chances tell. */
    private static void whatIsToldComesTrue() {
        int[] ends = new int[17];
        for (int first = 0; first < 3; first++) {
            for (int second = 0; second < 3; second++) {
                TankDivers game = new TankDivers();
                game.begin(2, lotOfThrow(first, second));
                ends[game.move(false) - 10]++;
            }
        }
        TankDivers game = new TankDivers();
        for (int place = 0; place <= 16; place++) {
            DUE.is("ends at " + place, game.chances(place, false, 0), ends[place]);
        }
    }

    private static int lotOfThrow(int first, int second) {
        for (int x = 0; x < 10000; x++) {
            if (Table.lotAfter(x, 17) % 3 == first && Table.lotAfter(x, 18) % 3 == second) {
                return x;
            }
        }
        throw new IllegalStateException("no lot gives this throw");
    }
}
