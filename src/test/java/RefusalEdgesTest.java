import java.util.List;
import java.util.function.Supplier;
import java.util.function.ToIntFunction;

/**
 * Promises 3 to 6 and Terms, 'Changes and errors': each reason and each error in each call that may
 * answer it, which of several is told, and that nothing else is changed.
 */
final class RefusalEdgesTest {
    private static final Due DUE = new Due();
    private static final Twins TWINS = new Twins(DUE);
    private static final int[] NO_NUMBERS = {Integer.MIN_VALUE, -2, -1, 6, 7, 1000, Integer.MAX_VALUE};

    private RefusalEdgesTest() {
    }

    public static void main(String[] args) {
        movesInAGameThatIsOver();
        deedsInAGameThatIsOver();
        overBeforeTheOthers();
        moveWhenADeedIsDue();
        deedBeforeTurningBack();
        turningBackInTheShip();
        turningBackTwice();
        takeWhenAMoveIsDue();
        layWhenAMoveIsDue();
        nothingWhenAMoveIsDue();
        takeInTheShip();
        layInTheShip();
        takeOnABlankSpace();
        takeWithSixStacks();
        layWithoutStacks();
        layNoSuchStack();
        layOnAStack();
        refusalsAreChanges();
        countedAlsoInEarlierGames();
        errorsOfBegin();
        errorsOfThePad();
        errorsOfPlayAndWhy();
        errorsOfLooks();
        errorsOfWhatWouldBe();
        errorsOfThePast();
        argumentsBeforePossible();
        argumentsBeforeTheLimit();
        argumentsBeforeNotFound();
        DUE.end();
    }

    /** The call is refused, counted and recorded; nothing else changes, and undo takes it back. */
    private static void refused(String call, Supplier<TankDivers> scene, int reason, ToIntFunction<TankDivers> act) {
        TankDivers game = scene.get();
        String before = Twins.still(game);
        int refused = game.count(12);
        int states = game.count(15);
        DUE.is(call, act.applyAsInt(game), reason);
        DUE.is(call + " is counted", game.count(12), refused + 1);
        DUE.is(call + " is recorded", game.count(15), Math.min(4, states + 1));
        TankDivers told = scene.get();
        act.applyAsInt(told);
        DUE.same(call + " changes nothing else", Twins.still(told), before);
        TankDivers undone = scene.get();
        act.applyAsInt(undone);
        DUE.is(call + " is undone", undone.undo(), Math.min(4, states + 1) - 1);
        DUE.same(call + " is undone", Twins.still(undone) + undone.count(12), before + refused);
        TankDivers restored = scene.get();
        act.applyAsInt(restored);
        TankDivers straight = scene.get();
        DUE.is(call + " leaves the snapshot", restored.restore(), straight.restore());
        DUE.same(call + " leaves the snapshot", Twins.still(restored), Twins.still(straight));
    }

    /** The call answers an error, and all that was before it, is behind it. */
    private static void wrong(String call, Supplier<TankDivers> scene, int error, ToIntFunction<TankDivers> act) {
        TWINS.same(call, () -> {
            TankDivers game = scene.get();
            DUE.is(call, act.applyAsInt(game), error);
            return game;
        }, scene);
    }

    private static TankDivers over() {
        TankDivers game = Table.at(3, 90, "dtdtdtututdtdndndtdtdndtdn");
        Table.endRound(game);
        Table.endRound(game);
        DUE.is("over", game.count(2), 3);
        return game;
    }

    /** A game with a full history, a snapshot, a stop of play() and turns in the pad. */
    private static TankDivers rich() {
        TankDivers game = Table.at(3, 90, "dtdtdtututdt");
        game.save();
        Table.play(game, "dnun");
        Table.act(game, "nd");
        Table.write(game, "dndn");
        DUE.is("states", game.count(15), 4);
        DUE.so("a stop", game.why(0) > 0);
        return game;
    }

    private static void movesInAGameThatIsOver() {
        DUE.sentence("Returns 10 and the place where the diver is then; the reason, 1, 3 or 4, if it is refused.");
        refused("move(false)", RefusalEdgesTest::over, 1, g -> g.move(false));
        refused("move(true)", RefusalEdgesTest::over, 1, g -> g.move(true));
    }

    private static void deedsInAGameThatIsOver() {
        DUE.sentence("Reasons are: 1 the game is over;");
        refused("take()", RefusalEdgesTest::over, 1, TankDivers::take);
        refused("lay(0)", RefusalEdgesTest::over, 1, g -> g.lay(0));
        refused("nothing()", RefusalEdgesTest::over, 1, TankDivers::nothing);
    }

    private static void overBeforeTheOthers() {
        DUE.sentence("The first reason that is so is told.");
        for (int number : NO_NUMBERS) {
            refused("lay(" + number + "), over", RefusalEdgesTest::over, 1, g -> g.lay(number));
        }
        refused("move(true), over", RefusalEdgesTest::over, 1, g -> g.move(true));
    }

    private static void moveWhenADeedIsDue() {
        DUE.sentence("3 it is time for a deed;");
        refused("move(false)", () -> Table.at(2, 1, "d"), 3, g -> g.move(false));
        refused("move(false) at home", () -> Table.at(2, 9610, "dndnu"), 3, g -> g.move(false));
        refused("move(true) at the first deed", () -> Table.at(2, 1, "d"), 3, g -> g.move(true));
    }

    /** One who goes up, or is in the ship, could not turn back either. */
    private static void deedBeforeTurningBack() {
        DUE.sentence("3 it is time for a deed; 4 the diver cannot turn back;");
        refused("move(true), going up", () -> Table.at(2, 3944, "dtdtu"), 3, g -> g.move(true));
        refused("move(true), home", () -> Table.at(2, 9610, "dndnu"), 3, g -> g.move(true));
    }

    private static void turningBackInTheShip() {
        DUE.sentence("4 the diver cannot turn back;");
        refused("move(true)", TankDivers::new, 4, g -> g.move(true));
        refused("move(true) of the second one", () -> Table.at(2, 1, "dn"), 4, g -> g.move(true));
        refused("move(true) of a further round", () -> Table.at(2, 1015, "dtdtundtdtdtdndtdtdn"), 4, g -> g.move(true));
        DUE.so("one step off the ship it is done", Table.at(2, 1, "dndnun").count(12) == 0);
    }

    private static void turningBackTwice() {
        DUE.sentence("turn back once, and step over one another");
        TankDivers game = Table.at(2, 4371, "dtdnutdt");
        DUE.is("goes up", game.diver(game.count(3), 1), 1);
        DUE.so("is not in the ship", Table.place(game) > 0);
        refused("move(true)", () -> Table.at(2, 4371, "dtdnutdt"), 4, g -> g.move(true));
    }

    private static void takeWhenAMoveIsDue() {
        DUE.sentence("Returns 10 and how many stacks the diver has then; the reason, 1, 2, 5, 6 or 8, if it is"
                + " refused.");
        refused("take(), in the ship too", TankDivers::new, 2, TankDivers::take);
        refused("take(), on a blank space too", () -> Table.at(2, 5445, "dtdtdtdt"), 2, TankDivers::take);
        refused("take(), where a stack is", () -> Table.at(2, 1, "dndn"), 2, TankDivers::take);
        refused("take(), with six stacks too", Table::withSixStacks, 2, TankDivers::take);
    }

    private static void layWhenAMoveIsDue() {
        DUE.sentence("Returns 10 and how many stacks the diver has left; the reason, 1, 2, 5, 6 or 7, if it is"
                + " refused.");
        refused("lay(0), in the ship too", TankDivers::new, 2, g -> g.lay(0));
        refused("lay(0), on a blank space", () -> Table.at(2, 5445, "dtdtdtdt"), 2, g -> g.lay(0));
        refused("lay(1), on a stack too", () -> Table.at(2, 6064, "dtdtdtundn"), 2, g -> g.lay(1));
        for (int number : NO_NUMBERS) {
            refused("lay(" + number + "), no such stack too", () -> Table.at(2, 5445, "dtdtdtdt"), 2,
                    g -> g.lay(number));
        }
    }

    private static void nothingWhenAMoveIsDue() {
        DUE.sentence("Returns 10; the reason, 1 or 2, if it is refused.");
        DUE.sentence("2 it is time for a move;");
        refused("nothing()", TankDivers::new, 2, TankDivers::nothing);
        refused("nothing() again", () -> Table.at(2, 1, "dn"), 2, TankDivers::nothing);
    }

    private static void takeInTheShip() {
        DUE.sentence("5 the diver is in the ship;");
        refused("take()", () -> Table.at(2, 9610, "dndnu"), 5, TankDivers::take);
        refused("take() with two stacks", () -> Table.at(2, 4427, "dtdtutdtd"), 5, TankDivers::take);
    }

    private static void layInTheShip() {
        DUE.sentence("5 the diver is in the ship; 6 there is no stack to take, or no such own stack;");
        refused("lay(0) without stacks", () -> Table.at(2, 9610, "dndnu"), 5, g -> g.lay(0));
        refused("lay(1) of two", () -> Table.at(2, 4427, "dtdtutdtd"), 5, g -> g.lay(1));
        refused("lay(2) of two", () -> Table.at(2, 4427, "dtdtutdtd"), 5, g -> g.lay(2));
        for (int number : NO_NUMBERS) {
            refused("lay(" + number + ")", () -> Table.at(2, 9610, "dndnu"), 5, g -> g.lay(number));
        }
    }

    private static void takeOnABlankSpace() {
        DUE.sentence("6 there is no stack to take, or no such own stack;");
        refused("take() without stacks", () -> Table.at(2, 9785, "dtdnunu"), 6, TankDivers::take);
        refused("take() with two stacks", () -> Table.at(2, 5445, "dtdtdtdtu"), 6, TankDivers::take);
    }

    /** With six stacks the diver is on the blank space of the sixth: the reason 6 comes before the 8. */
    private static void takeWithSixStacks() {
        DUE.sentence("8 the diver has 6 stacks.");
        for (int x = 0; x < 10000; x += 7) {
            TankDivers game = Table.at(2, x, "");
            for (int i = 0; i < 24 && game.count(2) == 0; i++) {
                game.move(false);
                boolean six = Table.held(game) == 6;
                int answer = i % 2 == 1 ? game.nothing() : game.take();
                DUE.so("no seventh stack", !six || i % 2 == 1 || answer == 6);
                if (answer < 10) {
                    game.nothing();
                }
            }
        }
        refused("take()", () -> Table.at(2, 1574, "dtdtundtdtdtdtdtd"), 6, TankDivers::take);
        refused("lay(6)", () -> Table.at(2, 1574, "dtdtundtdtdtdtdtd"), 6, g -> g.lay(6));
        DUE.is("lay(5)", Table.at(2, 1574, "dtdtundtdtdtdtdtd").lay(5), 15);
        DUE.is("lay(0)", Table.at(2, 1574, "dtdtundtdtdtdtdtd").lay(0), 15);
    }

    private static void layWithoutStacks() {
        DUE.sentence("or no such own stack; 7 the space is not blank;");
        refused("lay(0) on a blank space", () -> Table.at(2, 9785, "dtdnunu"), 6, g -> g.lay(0));
        refused("lay(0) on a stack", () -> Table.at(2, 1, "d"), 6, g -> g.lay(0));
    }

    private static void layNoSuchStack() {
        DUE.sentence("- `stack`: its number, from 0 in the order in which they were taken");
        for (int number : NO_NUMBERS) {
            refused("lay(" + number + ") on a blank space", () -> Table.at(2, 5445, "dtdtdtdtu"), 6,
                    g -> g.lay(number));
            refused("lay(" + number + ") on a stack", () -> Table.at(2, 703, "dtdtdtdtd"), 6, g -> g.lay(number));
        }
        refused("lay(2) of two", () -> Table.at(2, 5445, "dtdtdtdtu"), 6, g -> g.lay(2));
        DUE.is("lay(1) of two", Table.at(2, 5445, "dtdtdtdtu").lay(1), 11);
        DUE.is("lay(0) of two", Table.at(2, 5445, "dtdtdtdtu").lay(0), 11);
        refused("lay(2) of two on a stack", () -> Table.at(2, 703, "dtdtdtdtd"), 6, g -> g.lay(2));
    }

    private static void layOnAStack() {
        DUE.sentence("7 the space is not blank;");
        refused("lay(0)", () -> Table.at(2, 703, "dtdtdtdtd"), 7, g -> g.lay(0));
        refused("lay(1)", () -> Table.at(2, 703, "dtdtdtdtd"), 7, g -> g.lay(1));
    }

    private static void refusalsAreChanges() {
        DUE.sentence("what is refused by a reason is one, too (it is counted).");
        TankDivers game = new TankDivers();
        String[] turns = {"u", "t", "l0", "n", "u", "t"};
        for (int i = 0; i < turns.length; i++) {
            DUE.is("counted", game.count(12), i);
            DUE.is("recorded", game.count(15), Math.min(4, i));
            DUE.so("refused", Table.act(game, turns[i]) < 10);
        }
        for (int left = 3; left >= 0; left--) {
            DUE.is("undo()", game.undo(), left);
            DUE.is("counted", game.count(12), left + 2);
        }
        DUE.is("undo()", game.undo(), -2);
        DUE.is("the first two are not undone", game.count(12), 2);
    }

    private static void countedAlsoInEarlierGames() {
        DUE.sentence("12: what was refused so far (also in earlier games);");
        TankDivers game = new TankDivers();
        DUE.is("at first", game.count(12), 0);
        game.take();
        game.begin(4, 9999);
        DUE.is("in an earlier game", game.count(12), 1);
        game.begin(5, 0);
        game.play();
        game.restore();
        game.append(0);
        DUE.is("errors are not counted", game.count(12), 1);
        for (int i = 2; i <= 30; i++) {
            game.nothing();
            DUE.is("so many", game.count(12), i);
        }
    }

    private static void errorsOfBegin() {
        DUE.sentence("- `divers`: 2 to 4");
        int[] divers = {Integer.MIN_VALUE, -1, 0, 1, 5, Integer.MAX_VALUE};
        for (int number : divers) {
            wrong("begin(" + number + ", 0)", RefusalEdgesTest::rich, -1, g -> g.begin(number, 0));
        }
        DUE.is("begin(2, 0)", rich().begin(2, 0), 120);
        DUE.is("begin(4, 0)", rich().begin(4, 0), 120);
        DUE.sentence("- `x`: 0 to 9999: the lot");
        int[] lots = {Integer.MIN_VALUE, -1, 10000, 10001, Integer.MAX_VALUE};
        for (int x : lots) {
            wrong("begin(3, " + x + ")", RefusalEdgesTest::rich, -1, g -> g.begin(3, x));
        }
        DUE.is("begin(3, 0)", rich().begin(3, 0), 120);
        DUE.is("begin(3, 9999)", rich().begin(3, 9999), 120);
    }

    private static TankDivers fullPad() {
        TankDivers game = rich();
        game.clear();
        Table.write(game, "dn".repeat(30));
        return game;
    }

    private static void errorsOfThePad() {
        DUE.sentence("A call that returns an error changes nothing (the pad stays, too).");
        wrong("append(32)", RefusalEdgesTest::rich, -1, g -> g.append(32));
        wrong("append(127)", RefusalEdgesTest::rich, -1, g -> g.append(127));
        wrong("append(33), full", RefusalEdgesTest::fullPad, -3, g -> g.append(33));
        wrong("append(126), full", RefusalEdgesTest::fullPad, -3, g -> g.append(126));
        wrong("append(127), full", RefusalEdgesTest::fullPad, -1, g -> g.append(127));
        wrong("fault(), none", RefusalEdgesTest::rich, -4, TankDivers::fault);
    }

    private static TankDivers faulty() {
        TankDivers game = rich();
        game.append('x');
        return game;
    }

    private static void errorsOfPlayAndWhy() {
        DUE.sentence("`NOT_POSSIBLE = -2`: The call is not possible in the present state.");
        wrong("play()", RefusalEdgesTest::faulty, -2, TankDivers::play);
        wrong("why(-1)", RefusalEdgesTest::rich, -1, g -> g.why(-1));
        wrong("why(2)", RefusalEdgesTest::rich, -1, g -> g.why(2));
        wrong("why(0)", TankDivers::new, -4, g -> g.why(0));
        wrong("why(1)", TankDivers::new, -4, g -> g.why(1));
    }

    private static void errorsOfLooks() {
        DUE.sentence("`INVALID_ARGUMENT = -1`: An argument is out of its range, or there is no such diver.");
        wrong("diver(-1, 0)", RefusalEdgesTest::rich, -1, g -> g.diver(-1, 0));
        wrong("diver(3, 0) of three", RefusalEdgesTest::rich, -1, g -> g.diver(3, 0));
        wrong("diver(0, -1)", RefusalEdgesTest::rich, -1, g -> g.diver(0, -1));
        wrong("diver(0, 9)", RefusalEdgesTest::rich, -1, g -> g.diver(0, 9));
        wrong("stack(3, 0, 0)", RefusalEdgesTest::rich, -1, g -> g.stack(3, 0, 0));
        wrong("stack(0, -1, 0)", RefusalEdgesTest::rich, -1, g -> g.stack(0, -1, 0));
        wrong("stack(0, 0, 4)", RefusalEdgesTest::rich, -1, g -> g.stack(0, 0, 4));
        wrong("stack(0, 6, 0)", RefusalEdgesTest::rich, -4, g -> g.stack(0, 6, 0));
        wrong("space(0, 0)", RefusalEdgesTest::rich, -1, g -> g.space(0, 0));
        wrong("space(17, 0)", RefusalEdgesTest::rich, -1, g -> g.space(17, 0));
        wrong("space(1, 3)", RefusalEdgesTest::rich, -1, g -> g.space(1, 3));
        wrong("space(16, 2)", TankDivers::new, -4, g -> g.space(16, 2));
        wrong("count(-1)", RefusalEdgesTest::rich, -1, g -> g.count(-1));
        wrong("count(16)", RefusalEdgesTest::rich, -1, g -> g.count(16));
        wrong("count(3), over", RefusalEdgesTest::over, -4, g -> g.count(3));
    }

    private static void errorsOfWhatWouldBe() {
        DUE.sentence("Ahead of the calls `chances`, `homeward`, `used`, `brought` the interface says: ---- what would"
                + " be; nothing is changed.");
        wrong("chances(-1, ..)", RefusalEdgesTest::rich, -1, g -> g.chances(-1, false, 0));
        wrong("chances(17, ..)", RefusalEdgesTest::rich, -1, g -> g.chances(17, false, 0));
        wrong("chances(.., 2)", RefusalEdgesTest::rich, -1, g -> g.chances(0, false, 2));
        wrong("chances(0, true, 0)", TankDivers::new, -2, g -> g.chances(0, true, 0));
        wrong("homeward(0)", RefusalEdgesTest::rich, -1, g -> g.homeward(0));
        wrong("homeward(7)", RefusalEdgesTest::rich, -1, g -> g.homeward(7));
        wrong("homeward(1)", TankDivers::new, -2, g -> g.homeward(1));
    }

    private static void errorsOfThePast() {
        DUE.sentence("Returns the round then; NOT_POSSIBLE if there is none.");
        wrong("restore()", () -> Table.at(2, 1, "dtd"), -2, TankDivers::restore);
        DUE.sentence("Returns how many states the history has then; NOT_POSSIBLE if it has none.");
        wrong("undo()", TankDivers::new, -2, TankDivers::undo);
        wrong("undo(), all is undone", () -> {
            TankDivers game = rich();
            for (int i = 0; i < 4; i++) {
                game.undo();
            }
            return game;
        }, -2, TankDivers::undo);
    }

    private static void argumentsBeforePossible() {
        DUE.sentence("If several errors apply to a call, INVALID_ARGUMENT is returned rather than NOT_POSSIBLE,");
        Supplier<TankDivers> deedDue = () -> Table.at(2, 1, "d");
        for (Supplier<TankDivers> scene : List.<Supplier<TankDivers>>of(RefusalEdgesTest::over, deedDue)) {
            DUE.is("chances(0, false, 0)", scene.get().chances(0, false, 0), -2);
            DUE.is("chances(-1, false, 0)", scene.get().chances(-1, false, 0), -1);
            DUE.is("chances(17, true, 1)", scene.get().chances(17, true, 1), -1);
            DUE.is("chances(0, false, -1)", scene.get().chances(0, false, -1), -1);
            DUE.is("chances(0, true, 2)", scene.get().chances(0, true, 2), -1);
            DUE.is("homeward(1)", scene.get().homeward(1), -2);
            DUE.is("homeward(6)", scene.get().homeward(6), -2);
            DUE.is("homeward(0)", scene.get().homeward(0), -1);
            DUE.is("homeward(7)", scene.get().homeward(7), -1);
        }
    }

    private static void argumentsBeforeTheLimit() {
        DUE.sentence("NOT_POSSIBLE rather than LIMIT_REACHED, and LIMIT_REACHED rather than NOT_FOUND.");
        DUE.is("append(32), full", fullPad().append(32), -1);
        DUE.is("append(127), full", fullPad().append(127), -1);
        DUE.is("append(33), full", fullPad().append(33), -3);
    }

    private static void argumentsBeforeNotFound() {
        DUE.sentence("Returns the number; INVALID_ARGUMENT (also if stack is below 0); NOT_FOUND if there are not so"
                + " many stacks.");
        TankDivers game = new TankDivers();
        DUE.is("no such diver, no such stack", game.stack(2, 0, 0), -1);
        DUE.is("no such property, no such stack", game.stack(0, 0, 4), -1);
        DUE.is("no such property, no such stack", game.stack(0, 9, -1), -1);
        DUE.is("no such stack", game.stack(0, 0, 3), -4);
        DUE.is("below 0", game.stack(0, -1, 3), -1);
        DUE.is("no such property, nobody there", game.space(1, 3), -1);
        DUE.is("no such space, nobody there", game.space(17, 2), -1);
        DUE.is("no such property, no stop", game.why(2), -1);
    }
}
