/** Promises 1 to 6: a new object, begin, move, take, lay, nothing. */
final class GameTest {
    private static final Due DUE = new Due();
    private static final int[] THREE_STACKS = {4, 3, 2, 6, 4, 5, 2};

    private GameTest() {
    }

    public static void main(String[] args) {
        newObject();
        beginning();
        beginningAgain();
        beginningBehindRounds();
        wrongBeginnings();
        stepsDown();
        stepsOverOthers();
        endOfThePath();
        turningBack();
        fewerStepsWithStacks();
        noStepsWithManyStacks();
        breaths();
        takingAndLaying();
        refusedTakes();
        refusedLays();
        sixStacks();
        homeIsTheShip();
        onlyThoseOutAreOnTurn();
        DUE.end();
    }

    private static void newObject() {
        TankDivers game = new TankDivers();
        int[] counts = {2, 16, 0, 0, 0, 25, 0, 120, 0, 0, 16, 0, 0, Table.lotAfter(1, 16), 0, 0};
        for (int what = 0; what < counts.length; what++) {
            DUE.is("new: count(" + what + ")", game.count(what), counts[what]);
        }
        for (int space = 1; space <= 16; space++) {
            DUE.is("new: space(" + space + ", 0)", game.space(space, 0), 1);
            DUE.is("new: space(" + space + ", 1)", game.space(space, 1), Table.valueAt(1, space));
            DUE.is("new: space(" + space + ", 2)", game.space(space, 2), -4);
        }
        // The lot after 1 is 421 + 1663 = 2084, the one after that 421 * 2084 + 1663 = ..9027.
        DUE.is("new: first value", game.space(1, 1), 0);
        DUE.is("new: second value", game.space(2, 1), 3);
        for (int diver = 0; diver < 2; diver++) {
            for (int what = 0; what <= 8; what++) {
                DUE.is("new: diver(" + diver + ", " + what + ")", game.diver(diver, what), 0);
            }
        }
        DUE.is("new: no third diver", game.diver(2, 0), -1);
        DUE.is("new: why(0)", game.why(0), -4);
        DUE.is("new: undo()", game.undo(), -2);
        DUE.is("new: restore()", game.restore(), -2);
        DUE.is("new: fault()", game.fault(), 0);
        DUE.is("new: leader()", game.leader(), 0);
        DUE.is("new: used()", game.used(), 0);
        DUE.real("new: brought()", game.brought(), 0.0);
    }

    private static void beginning() {
        int[] lots = {0, 1, 777, 5000, 9999};
        for (int divers = 2; divers <= 4; divers++) {
            for (int x : lots) {
                TankDivers game = new TankDivers();
                String call = "begin(" + divers + ", " + x + ")";
                DUE.is(call, game.begin(divers, x), 120);
                DUE.is(call + " divers", game.count(0), divers);
                DUE.is(call + " lot", game.count(13), Table.lotAfter(x, 16));
                DUE.is(call + " history", game.count(15), 1);
                DUE.is(call + " last diver", game.diver(divers - 1, 0), 0);
                DUE.is(call + " no more divers", game.diver(divers, 0), -1);
                for (int space = 1; space <= 16; space++) {
                    DUE.is(call + " space " + space, game.space(space, 1), Table.valueAt(x, space));
                }
            }
        }
    }

    private static void beginningAgain() {
        TankDivers game = Table.showing(4, 3, 4, 5);
        String fresh = Table.look(game);
        int x = Table.lotFor(3, 4, 5);
        game.move(false);
        game.take();
        game.move(false);
        game.lay(0);
        game.take();
        DUE.is("begin again", game.begin(4, x), 120);
        DUE.is("refused in earlier games", game.count(12), 1);
        DUE.is("no dice in this game", game.count(11), 0);
        DUE.same("all else is new", Table.look(game).replace(" 0 1 " + game.count(13), " 0 0 " + game.count(13)),
                fresh);
    }

    private static void beginningBehindRounds() {
        TankDivers game = Table.showing(4, 3, 4, 5);
        String fresh = Table.look(game);
        for (int i = 0; i < 200 && game.count(2) < 2; i++) {
            game.move(game.diver(game.count(3), 1) == 0 && game.diver(game.count(3), 3) > 1);
            if (game.take() < 10) {
                game.nothing();
            }
            DUE.is("begin", game.begin(4, Table.lotFor(3, 4, 5)), 120);
            DUE.is("undo()", game.undo(), 3);
        }
        DUE.so("something was brought", game.count(9) > 0);
        int refused = game.count(12);
        game.begin(4, Table.lotFor(3, 4, 5));
        DUE.is("refused in earlier games", game.count(12), refused);
        for (int diver = 0; diver < 4; diver++) {
            for (int what = 0; what <= 8; what++) {
                DUE.is("diver(" + diver + ", " + what + ")", game.diver(diver, what), 0);
            }
        }
        String now = Table.look(game);
        DUE.same("all else is new", now.replace(" 0 " + refused + " ", " 0 0 "), fresh);
    }

    private static void wrongBeginnings() {
        TankDivers game = new TankDivers();
        game.move(false);
        String before = Table.look(game);
        int[][] wrong = {{1, 5}, {5, 5}, {0, 0}, {-1, 0}, {2, -1}, {2, 10000}, {4, Integer.MAX_VALUE},
            {Integer.MIN_VALUE, 1}, {Integer.MAX_VALUE, -1}, {3, Integer.MIN_VALUE}};
        for (int[] arguments : wrong) {
            DUE.is("begin(" + arguments[0] + ", " + arguments[1] + ")", game.begin(arguments[0], arguments[1]), -1);
        }
        DUE.same("a wrong begin changes nothing", Table.look(game), before);
        DUE.is("a wrong begin is no change", game.count(15), 1);
    }

    private static void stepsDown() {
        for (int sum = 2; sum <= 6; sum++) {
            TankDivers game = Table.showing(2, sum);
            DUE.is("move with " + sum, game.move(false), 10 + sum);
            DUE.is("dice", game.count(11), sum);
            DUE.is("lot", game.count(13), Table.lotAfter(Table.lotFor(sum), 18));
            DUE.is("place", game.diver(0, 0), sum);
            DUE.is("goes down", game.diver(0, 1), 0);
            DUE.is("time for a deed", game.count(4), 1);
            DUE.is("still on turn", game.count(3), 0);
            DUE.is("who is there", game.space(sum, 2), 0);
            DUE.is("nothing()", game.nothing(), 10);
            DUE.is("next on turn", game.count(3), 1);
            DUE.is("time for a move", game.count(4), 0);
        }
    }

    private static void stepsOverOthers() {
        TankDivers game = Table.showing(4, 4, 4, 3, 6);
        DUE.is("first", game.move(false), 14);
        game.nothing();
        DUE.is("the space of the first does not count", game.move(false), 15);
        game.nothing();
        DUE.is("does not reach them", game.move(false), 13);
        game.nothing();
        DUE.is("steps over three", game.move(false), 19);
        game.nothing();
        TankDivers up = Table.showing(3, 4, 3, 2, 3, 0, 0, 4);
        up.move(false);
        up.nothing();
        up.move(false);
        up.nothing();
        up.move(false);
        up.nothing();
        DUE.is("up by three, over 3 and 2", up.move(true), 10);
        TankDivers some = Table.showing(3, 6, 4, 5, 2);
        some.move(false);
        some.nothing();
        some.move(false);
        some.nothing();
        DUE.is("over 4 to 6, over 6 to 7", some.move(false), 17);
        some.nothing();
        DUE.is("up by two, over 4", some.move(true), 13);
    }

    private static void endOfThePath() {
        TankDivers game = new TankDivers();
        for (int i = 0; i < 40; i++) {
            game.move(false);
            game.nothing();
        }
        int first = game.diver(0, 0);
        int second = game.diver(1, 0);
        DUE.is("both at the end", first + second, 31);
        DUE.so("on spaces of their own", first != second);
        DUE.is("the deepest stays", game.move(false), 10 + first);
        game.nothing();
        DUE.is("the other one stays", game.move(false), 10 + second);
        DUE.is("no breath is used", game.count(5), 25);
    }

    private static void turningBack() {
        TankDivers game = Table.showing(2, 6, 5, 3, 2, 2);
        DUE.is("in the ship", game.move(true), 4);
        DUE.is("it is counted", game.count(12), 1);
        DUE.is("it is a change", game.count(15), 2);
        DUE.is("no dice", game.count(11), 0);
        DUE.is("down", game.move(false), 16);
        DUE.is("time for a deed, not a move", game.move(true), 3);
        DUE.is("time for a deed, not a move", game.move(false), 3);
        game.nothing();
        game.move(false);
        game.nothing();
        DUE.is("back, over the other at 5", game.move(true), 12);
        DUE.is("goes up", game.diver(0, 1), 1);
        DUE.is("not home", game.diver(0, 2), 0);
        game.nothing();
        game.move(false);
        game.nothing();
        DUE.is("not twice", game.move(true), 4);
        DUE.is("further up", game.move(false), 10);
        DUE.is("home", game.diver(0, 2), 1);
        DUE.is("still going up", game.diver(0, 1), 1);
    }

    private static void fewerStepsWithStacks() {
        TankDivers game = Table.showing(2, 2, 6, 3, 0, 4);
        game.move(false);
        DUE.is("first stack", game.take(), 11);
        DUE.is("no breath is used yet", game.count(5), 25);
        game.move(false);
        game.nothing();
        DUE.is("3 less 1", game.move(false), 14);
        DUE.is("one breath", game.count(5), 24);
        DUE.is("second stack", game.take(), 12);
        game.move(false);
        game.nothing();
        DUE.is("4 less 2, over nobody or one", game.move(false), game.diver(1, 0) < 7 ? 17 : 16);
        DUE.is("two breaths more", game.count(5), 22);
    }

    private static void noStepsWithManyStacks() {
        TankDivers game = Table.showing(2, 2, 6, 3, 0, 2);
        game.move(false);
        game.take();
        game.move(false);
        game.nothing();
        game.move(false);
        game.take();
        game.move(false);
        game.nothing();
        DUE.is("2 less 2, turned back", game.move(true), 14);
        DUE.is("goes up all the same", game.diver(0, 1), 1);
        TankDivers few = threeStacks();
        DUE.is("less than no steps are none", few.diver(0, 0), 7);
    }

    /** The diver 0 has the treasures of 4, 5 and 7 and stands, after a move by no step, on 7. */
    private static TankDivers threeStacks() {
        TankDivers game = Table.showing(2, THREE_STACKS);
        game.move(false);
        game.take();
        game.move(false);
        game.nothing();
        game.move(false);
        game.take();
        game.move(false);
        game.nothing();
        game.move(false);
        DUE.is("third stack", game.take(), 13);
        game.move(false);
        game.nothing();
        DUE.is("2 less 3", game.move(false), 17);
        return game;
    }

    private static void breaths() {
        TankDivers game = new TankDivers();
        int tank = 25;
        for (int i = 0; i < 100 && game.count(2) == 0; i++) {
            int stacks = game.diver(game.count(3), 3);
            game.move(false);
            tank = Math.max(0, tank - stacks);
            DUE.is("breaths behind move " + i, game.count(5), tank);
            if (game.take() < 10) {
                game.nothing();
            }
        }
        DUE.is("the tank was empty", tank, 0);
        DUE.is("the round has ended", game.count(2), 1);
    }

    private static void takingAndLaying() {
        int x = Table.lotFor(THREE_STACKS);
        TankDivers game = threeStacks();
        int[] spaces = {4, 5, 7};
        int held = 0;
        for (int i = 0; i < spaces.length; i++) {
            int value = Table.valueAt(x, spaces[i]);
            held += value;
            DUE.is("a taken space is blank", game.space(spaces[i], 0), 0);
            DUE.is("and without values", game.space(spaces[i], 1), 0);
            DUE.is("the stack has one treasure", game.stack(0, i, 0), 1);
            DUE.is("its value", game.stack(0, i, 1), value);
        }
        DUE.is("blank spaces", game.count(6), 3);
        DUE.is("spaces stay", game.count(1), 16);
        DUE.is("values of the stacks", game.count(8), held);
        DUE.is("values of the path", game.count(7), 120 - held);
        DUE.is("lay the middle one", game.lay(1), 12);
        DUE.is("one treasure lies there", game.space(7, 0), 1);
        DUE.is("it is that one", game.space(7, 1), Table.valueAt(x, 5));
        DUE.is("the first one stays", game.stack(0, 0, 1), Table.valueAt(x, 4));
        DUE.is("the third one is the second then", game.stack(0, 1, 1), Table.valueAt(x, 7));
        DUE.is("no third one", game.stack(0, 2, 0), -4);
        DUE.is("next on turn", game.count(3), 1);
        DUE.is("blank spaces", game.count(6), 2);
        TankDivers last = threeStacks();
        DUE.is("lay the last one", last.lay(2), 12);
        DUE.is("the first two stay", last.stack(0, 1, 1), Table.valueAt(x, 5));
        TankDivers none = threeStacks();
        DUE.is("a fourth one is not there", none.lay(3), 6);
        DUE.is("lay the first one", none.lay(0), 12);
        DUE.is("the second one is the first then", none.stack(0, 0, 1), Table.valueAt(x, 5));
    }

    private static void refusedTakes() {
        TankDivers game = Table.showing(2, 2, 3, 2);
        DUE.is("take: time for a move", game.take(), 2);
        game.move(false);
        game.nothing();
        DUE.is("take: time for a move again", game.take(), 2);
        game.move(false);
        game.nothing();
        DUE.is("to the ship", game.move(true), 10);
        DUE.is("take in the ship", game.take(), 5);
        DUE.is("lay in the ship", game.lay(0), 5);
        DUE.is("refused", game.count(12), 4);
        DUE.is("still to do", game.count(4), 1);
        DUE.is("nothing in the ship", game.nothing(), 10);
        TankDivers taken = Table.showing(2, 2, 4, 3, 2);
        taken.move(false);
        taken.take();
        taken.move(false);
        taken.nothing();
        DUE.is("on by two", taken.move(false), 14);
        taken.nothing();
        DUE.is("up from 5 by two, over 4", taken.move(true), 12);
        DUE.is("a blank space has no stack", taken.take(), 6);
        DUE.is("it is counted", taken.count(12), 1);
        DUE.is("no own stack", taken.lay(0), 6);
    }

    private static void refusedLays() {
        TankDivers game = Table.showing(2, 2, 4, 3);
        DUE.is("lay: time for a move", game.lay(0), 2);
        DUE.is("nothing: time for a move", game.nothing(), 2);
        game.move(false);
        DUE.is("no such own stack is told ahead of a space that is not blank", game.lay(0), 6);
        game.take();
        game.move(false);
        game.nothing();
        game.move(false);
        DUE.is("not blank", game.lay(0), 7);
        DUE.is("number too great", game.lay(1), 6);
        DUE.is("number below 0", game.lay(-1), 6);
        DUE.is("number far below 0", game.lay(Integer.MIN_VALUE), 6);
        DUE.is("number far too great", game.lay(Integer.MAX_VALUE), 6);
        DUE.is("refused", game.count(12), 8);
        DUE.is("stack stays", game.diver(0, 3), 1);
    }

    /** With six stacks no dice lead further, so that the diver stands on the blank space for good. */
    private static void sixStacks() {
        TankDivers game = Table.withSixStacks();
        int place = game.diver(0, 0);
        DUE.is("six stacks", game.diver(0, 3), 6);
        int before = game.count(5);
        DUE.is("no step", game.move(false), 10 + place);
        DUE.is("six breaths", game.count(5), Math.max(0, before - 6));
        DUE.is("the space is blank", game.take(), 6);
        DUE.is("lay the last one", game.lay(5), 15);
    }

    private static void homeIsTheShip() {
        TankDivers game = Table.showing(3, 2, 3, 4, 5);
        game.move(false);
        game.take();
        game.move(false);
        game.nothing();
        game.move(false);
        game.nothing();
        DUE.is("5 less 1 are more than enough", game.move(true), 10);
        DUE.is("home", game.diver(0, 2), 1);
        DUE.is("brought only at the end of the round", game.diver(0, 6), 0);
        DUE.is("still has the stack", game.diver(0, 3), 1);
        DUE.is("nothing else to do", game.nothing(), 10);
        DUE.is("round goes on", game.count(2), 0);
    }

    private static void onlyThoseOutAreOnTurn() {
        TankDivers game = Table.showing(3, 2, 3, 4, 5);
        for (int i = 0; i < 3; i++) {
            game.move(false);
            game.nothing();
        }
        game.move(true);
        game.nothing();
        DUE.is("on turn", game.count(3), 1);
        game.move(false);
        game.nothing();
        DUE.is("on turn", game.count(3), 2);
        game.move(false);
        game.nothing();
        DUE.is("past the one who is home", game.count(3), 1);
        for (int i = 0; i < 20 && game.diver(1, 2) == 0; i++) {
            if (game.count(3) == 1) {
                game.move(game.diver(1, 1) == 0);
            } else {
                game.move(false);
            }
            game.nothing();
        }
        DUE.is("the last one out", game.count(3), 2);
        game.move(false);
        game.nothing();
        DUE.is("is on turn again", game.count(3), 2);
        for (int i = 0; i < 20 && game.count(2) == 0; i++) {
            game.move(game.diver(2, 1) == 0);
            game.nothing();
        }
        DUE.is("all home: the round ends", game.count(2), 1);
        DUE.is("nobody drowned", game.diver(0, 8) + game.diver(1, 8) + game.diver(2, 8), 0);
        DUE.is("all in the ship: the lowest number", game.count(3), 0);
    }
}
