import java.util.List;
import java.util.function.Consumer;

/** Terms, 'Changes and errors', and promises 21 to 23: each sentence that names an edge, one test for each. */
final class PastEdgesTest {
    private static final Due DUE = new Due();

    private PastEdgesTest() {
    }

    public static void main(String[] args) {
        fourStates();
        fifthStateDropsTheOldest();
        alsoIfNothingIsDifferent();
        whatIsNoChange();
        undoIsNoChange();
        undoneAsItWas();
        undoLeavesThePad();
        undoLeavesTheSnapshot();
        undoLeavesWhy();
        undoOverGames();
        anotherGameIsNew();
        undoOverRounds();
        saveReturnsTheRound();
        saveInPlaceOfTheOne();
        snapshotIsNotOfThePad();
        snapshotIsNotOfTheHistory();
        snapshotStays();
        noSnapshot();
        newObjectIsLikeBegin();
        calledToTheLast();
        DUE.end();
    }

    /** One call of each kind of change; the last four are refused. */
    private static List<Consumer<TankDivers>> changes() {
        return List.of(g -> g.begin(3, 7), g -> g.move(false), TankDivers::take, TankDivers::nothing,
                g -> Table.play(g, "dtdn"), TankDivers::restore, g -> g.move(true), g -> g.lay(9),
                g -> Table.play(g, "un"), g -> g.lay(-1));
    }

    /** A game with so many states and a snapshot. */
    private static TankDivers withStates(int states) {
        TankDivers game = new TankDivers();
        game.save();
        Table.act(game, "dtdn".substring(0, states));
        DUE.is("states", game.count(15), states);
        return game;
    }

    private static void fourStates() {
        DUE.sentence("A history of at most 4 states is kept:");
        DUE.is("none at first", new TankDivers().count(15), 0);
        for (int states = 0; states <= 4; states++) {
            for (int kind = 0; kind < changes().size(); kind++) {
                TankDivers game = withStates(states);
                changes().get(kind).accept(game);
                DUE.is("behind the change " + kind, game.count(15), Math.min(4, states + 1));
            }
        }
        TankDivers game = withStates(4);
        for (int left = 3; left >= 0; left--) {
            DUE.is("undo()", game.undo(), left);
            DUE.is("states", game.count(15), left);
        }
        DUE.is("no more", game.undo(), -2);
    }

    private static void fifthStateDropsTheOldest() {
        DUE.sentence("if there are 5 states then, the oldest one is dropped.");
        for (int kind = 0; kind < changes().size(); kind++) {
            TankDivers game = withStates(4);
            changes().get(kind).accept(game);
            for (int left = 3; left >= 0; left--) {
                DUE.is("undo()", game.undo(), left);
                if (left == 3) {
                    DUE.same("as before the change " + kind, Table.look(game), Table.look(withStates(4)));
                }
            }
            DUE.is("no more", game.undo(), -2);
            DUE.same("behind the first change, not before it", Table.look(game), Table.look(withStates(1)));
        }
    }

    private static void alsoIfNothingIsDifferent() {
        DUE.sentence("each change records everything before it but the pad and the snapshot (also if nothing is"
                + " different then),");
        TankDivers game = new TankDivers();
        game.move(false);
        game.save();
        game.restore();
        DUE.is("restore() of what is so anyway", game.count(15), 2);
        game.restore();
        DUE.is("again", game.count(15), 3);
        game.undo();
        game.undo();
        DUE.is("time for a deed", game.count(4), 1);
        game.undo();
        DUE.is("time for a move", game.count(4), 0);
        TankDivers begun = new TankDivers();
        begun.begin(2, 1);
        DUE.is("begin() of the same game", begun.count(15), 1);
    }

    private static void whatIsNoChange() {
        DUE.sentence("The changes are the calls of begin, move, take, lay, nothing, play and restore that return no"
                + " error;");
        List<Consumer<TankDivers>> calls = List.of(TankDivers::save, g -> g.append('d'), TankDivers::clear,
                TankDivers::fault, g -> g.begin(1, 1), g -> g.begin(2, 10000), TankDivers::play, g -> g.why(0),
                g -> g.append(5), g -> g.homeward(1), g -> g.chances(0, false, 0), TankDivers::used,
                TankDivers::brought, TankDivers::leader, g -> g.count(0));
        for (int kind = 0; kind < calls.size(); kind++) {
            TankDivers game = Table.at(2, 1, "d");
            calls.get(kind).accept(game);
            DUE.is("the call " + kind + " is no change", game.count(15), 2);
            DUE.is("undo() is of the move", game.undo(), 1);
            DUE.is("time for a move", game.count(4), 0);
        }
        TankDivers none = Table.at(2, 1, "d");
        DUE.is("restore() without a snapshot", none.restore(), -2);
        DUE.is("states", none.count(15), 2);
    }

    private static void undoIsNoChange() {
        DUE.sentence("Returns how many states the history has then; NOT_POSSIBLE if it has none.");
        TankDivers game = Table.at(2, 1, "dnd");
        DUE.is("undo()", game.undo(), 3);
        DUE.is("undo()", game.undo(), 2);
        DUE.is("undo()", game.undo(), 1);
        DUE.is("undo()", game.undo(), 0);
        DUE.is("undo()", game.undo(), -2);
        DUE.is("undo() again", game.undo(), -2);
        game.move(false);
        DUE.is("a change behind it", game.count(15), 1);
        DUE.is("undo()", game.undo(), 0);
    }

    private static void undoneAsItWas() {
        DUE.sentence("Undoes the latest change: everything but the pad, the snapshot and why() is as it was before"
                + " it.");
        for (int kind = 0; kind < changes().size(); kind++) {
            for (int states = 1; states <= 4; states++) {
                TankDivers game = withStates(states);
                changes().get(kind).accept(game);
                game.undo();
                DUE.same("the change " + kind, Table.look(game), Table.look(withStates(states)));
            }
        }
    }

    private static void undoLeavesThePad() {
        DUE.sentence("everything but the pad, the snapshot and why()");
        TankDivers game = new TankDivers();
        Table.write(game, "dn");
        game.move(false);
        Table.write(game, "u");
        game.undo();
        DUE.is("length", game.count(14), 3);
        DUE.is("fault", game.fault(), 3);
        game.append('n');
        DUE.is("play()", game.play(), 2);
        game.undo();
        DUE.is("the pad is empty", game.count(14), 0);
    }

    private static void undoLeavesTheSnapshot() {
        DUE.sentence("each change records everything before it but the pad and the snapshot");
        TankDivers game = new TankDivers();
        game.move(false);
        game.save();
        game.undo();
        DUE.is("the snapshot is there", game.restore(), 0);
        DUE.is("time for a deed", game.count(4), 1);
        game.nothing();
        game.move(false);
        game.save();
        game.undo();
        game.undo();
        game.undo();
        game.restore();
        DUE.is("the latest snapshot", game.count(3), 1);
        DUE.is("time for a deed", game.count(4), 1);
    }

    private static void undoLeavesWhy() {
        DUE.sentence("(This is not a part of what is undone, or restored.)");
        TankDivers game = new TankDivers();
        game.save();
        Table.play(game, "dnun");
        game.undo();
        DUE.is("reason", game.why(0), 4);
        DUE.is("position", game.why(1), 2);
        game.restore();
        DUE.is("reason", game.why(0), 4);
        Table.play(game, "dn");
        game.undo();
        DUE.is("all was done", game.why(0), -4);
        game.restore();
        DUE.is("all was done", game.why(1), -4);
    }

    private static void undoOverGames() {
        DUE.sentence("`int begin(int divers, int x)`: Begins another game.");
        for (int before = 2; before <= 4; before++) {
            for (int divers = 2; divers <= 4; divers++) {
                TankDivers game = Table.at(before, 155, "dtdtdtdtdt");
                String told = Table.look(game);
                game.begin(divers, 9999);
                DUE.is("divers", game.count(0), divers);
                DUE.is("undo()", game.undo(), 3);
                DUE.same("the game before", Table.look(game), told);
                game.begin(divers, 9999);
                Table.act(game, "dt");
                DUE.is("undo() of three changes", game.undo() + game.undo() + game.undo(), 6);
                DUE.same("the game before, with its stacks", Table.look(game), told);
            }
        }
        TankDivers drowned = Table.at(3, 90, "dtdtdtututdtdndndtdtdndtdndt");
        String told = Table.look(drowned);
        DUE.so("scores and drowned", drowned.count(9) > 0 && drowned.diver(2, 8) == 1);
        drowned.begin(3, 90);
        drowned.undo();
        DUE.same("the game before, with what was brought", Table.look(drowned), told);
    }

    private static void anotherGameIsNew() {
        DUE.sentence("`int begin(int divers, int x)`: Begins another game.");
        String[] before = {"", "d", "dt", "dtdt", "dtdtdtututdtdndndtdtdndtdn", "dtdtdtututdtdndndtdtdndtdndtd"};
        for (String turns : before) {
            TankDivers game = Table.at(3, 90, turns);
            DUE.is("begin", game.begin(3, 90), 120);
            DUE.same("all is new behind " + turns, Table.look(game), Table.look(Table.at(3, 90, "")));
        }
        TankDivers over = Table.at(3, 90, before[4]);
        Table.endRound(over);
        Table.endRound(over);
        DUE.is("over", over.count(4), 2);
        DUE.is("begin", over.begin(3, 90), 120);
        DUE.is("round", over.count(2), 0);
        DUE.is("on turn", over.count(3), 0);
        for (int what = 0; what <= 8; what++) {
            DUE.is("diver(0, " + what + ")", over.diver(0, what), 0);
        }
    }

    private static void undoOverRounds() {
        DUE.sentence("everything but the pad, the snapshot and why() is as it was before it.");
        TankDivers game = Table.at(3, 6884, "dndndndnunundtundndtdtd");
        String told = Table.look(game);
        game.nothing();
        DUE.is("round", game.count(2), 1);
        String behind = Table.look(game);
        game.undo();
        DUE.same("before the end of the round", Table.look(game), told);
        game.nothing();
        DUE.same("the same end again", Table.look(game), behind);
        TankDivers over = Table.at(2, 1, "");
        for (int i = 0; i < 3; i++) {
            Table.endRound(over);
        }
        DUE.is("over", over.count(4), 2);
        over.undo();
        DUE.is("the last deed is due again", over.count(2) * 10 + over.count(4), 21);
        DUE.is("nothing", over.nothing(), 10);
        DUE.is("over", over.count(4), 2);
    }

    private static void saveReturnsTheRound() {
        DUE.sentence("Returns the round.");
        TankDivers game = new TankDivers();
        for (int round = 0; round <= 3; round++) {
            DUE.is("save()", game.save(), round);
            DUE.is("restore()", game.restore(), round);
            Table.endRound(game);
        }
        DUE.is("restore() of the game that was over", game.restore(), 3);
        game.begin(2, 2);
        DUE.is("restore() of it in another game", game.restore(), 3);
        DUE.is("it is over", game.count(4), 2);
    }

    private static void saveInPlaceOfTheOne() {
        DUE.sentence("in place of the one that was.");
        TankDivers game = Table.at(2, 1, "d");
        game.save();
        game.begin(4, 9);
        game.save();
        game.begin(3, 8);
        game.restore();
        DUE.is("divers of the latest one", game.count(0), 4);
        game.undo();
        game.restore();
        DUE.is("once more", game.count(0), 4);
    }

    private static void snapshotIsNotOfThePad() {
        DUE.sentence("Takes a snapshot of everything but the pad, the history and why(),");
        TankDivers game = new TankDivers();
        Table.write(game, "dn");
        game.save();
        game.append('x');
        game.restore();
        DUE.is("length", game.count(14), 3);
        DUE.is("fault", game.fault(), 2);
        game.clear();
        game.restore();
        DUE.is("length", game.count(14), 0);
        Table.play(game, "un");
        game.save();
        Table.play(game, "dndn");
        game.restore();
        DUE.is("why", game.why(0), -4);
        DUE.is("what was refused is in it", game.count(12), 1);
    }

    private static void snapshotIsNotOfTheHistory() {
        DUE.sentence("everything but the pad, the history and why(),");
        for (int saved = 0; saved <= 4; saved++) {
            TankDivers game = withStates(saved);
            game.save();
            for (int i = 0; i < 3; i++) {
                game.undo();
            }
            int states = game.count(15);
            game.restore();
            DUE.is("states", game.count(15), states + 1);
            DUE.is("undo()", game.undo(), states);
        }
    }

    private static void snapshotStays() {
        DUE.sentence("Restores the snapshot, which stays.");
        TankDivers game = Table.at(3, 90, "dtdtdtututdt");
        game.save();
        String told = Table.look(game);
        for (int i = 0; i < 3; i++) {
            Table.act(game, "dn");
            game.begin(2, i);
            DUE.is("restore()", game.restore(), 0);
            DUE.same("as in the snapshot", Table.look(game), told);
        }
    }

    private static void noSnapshot() {
        DUE.sentence("Returns the round then; NOT_POSSIBLE if there is none.");
        TankDivers game = new TankDivers();
        DUE.is("restore()", game.restore(), -2);
        game.begin(4, 4);
        DUE.is("restore()", game.restore(), -2);
        DUE.is("divers", game.count(0), 4);
        game.save();
        DUE.is("restore()", game.restore(), 0);
        while (game.undo() >= 0) {
            DUE.is("undo takes no snapshot back", game.count(15) >= 0 ? 1 : 0, 1);
        }
        DUE.is("restore()", game.restore(), 0);
        DUE.is("divers", game.count(0), 4);
    }

    private static void newObjectIsLikeBegin() {
        DUE.sentence("`TankDivers()`: Begins a game of 2 divers with the lot 1.");
        TankDivers begun = new TankDivers();
        begun.begin(2, 1);
        begun.undo();
        TankDivers game = new TankDivers();
        DUE.same("like begin(2, 1)", Twins.whole(game), Twins.whole(begun));
        DUE.same("like begin(2, 1)", Twins.still(game), Twins.still(Table.at(2, 1, "")));
        DUE.is("no history", game.count(15), 0);
        DUE.is("nothing was refused", game.count(12), 0);
        DUE.is("no snapshot", game.restore(), -2);
        DUE.is("no stop", game.why(0), -4);
    }

    private static void calledToTheLast() {
        DUE.sentence("An object is used for at most 512 calls after it has been made;");
        TankDivers game = new TankDivers();
        for (int call = 1; call < 512; call++) {
            game.nothing();
        }
        DUE.is("the last call", game.count(12), 511);
    }
}
