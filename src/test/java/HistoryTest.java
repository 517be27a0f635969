/** Promises 21 to 23: undo, save, restore; 'Changes and errors'. */
final class HistoryTest {
    private static final Due DUE = new Due();

    private HistoryTest() {
    }

    public static void main(String[] args) {
        nothingToUndo();
        fourStates();
        eachChangeIsUndone();
        refusalsAreUndone();
        errorsAreNoChanges();
        padStays();
        endOfARoundIsUndone();
        endOfTheGameIsUndone();
        snapshots();
        snapshotsStay();
        snapshotOfRefusals();
        stacksAndDrownedComeBack();
        manyChanges();
        DUE.end();
    }

    private static void nothingToUndo() {
        TankDivers game = new TankDivers();
        DUE.is("undo()", game.undo(), -2);
        game.append('d');
        game.clear();
        game.save();
        DUE.is("these are no changes", game.undo(), -2);
        game.move(false);
        DUE.is("undo()", game.undo(), 0);
        DUE.is("undo() again", game.undo(), -2);
        DUE.is("undo is no change", game.count(15), 0);
    }

    private static void fourStates() {
        TankDivers game = new TankDivers();
        String[] looks = new String[7];
        for (int i = 0; i < 6; i++) {
            DUE.is("states", game.count(15), Math.min(i, 4));
            looks[i] = Table.look(game);
            if (i % 2 == 0) {
                game.move(false);
            } else {
                game.take();
            }
        }
        DUE.is("the oldest ones were dropped", game.count(15), 4);
        for (int left = 3; left >= 0; left--) {
            DUE.is("undo()", game.undo(), left);
            DUE.same("as it was", Table.look(game), looks[left + 2]);
        }
        DUE.is("no more", game.undo(), -2);
        DUE.same("as it was", Table.look(game), looks[2]);
    }

    private static void eachChangeIsUndone() {
        TankDivers game = Table.showing(3, 2, 4, 3);
        for (int change = 0; change < 9; change++) {
            String before = Table.look(game);
            int states = game.count(15);
            change(game, change);
            DUE.is("change " + change + " is recorded", game.count(15), Math.min(4, states + 1));
            DUE.is("undo() of " + change, game.undo(), Math.min(4, states + 1) - 1);
            DUE.same("change " + change + " is undone", Table.look(game), before);
            change(game, change);
        }
    }

    private static void change(TankDivers game, int change) {
        switch (change) {
            case 0 -> game.move(false);
            case 1 -> game.take();
            case 2 -> game.move(false);
            case 3 -> game.nothing();
            case 4 -> {
                game.save();
                Table.play(game, "dtdndn");
            }
            case 5 -> game.restore();
            case 6 -> game.begin(4, 99);
            case 7 -> game.restore();
            default -> game.lay(0);
        }
    }

    private static void refusalsAreUndone() {
        TankDivers game = new TankDivers();
        String before = Table.look(game);
        game.take();
        game.lay(0);
        game.nothing();
        game.move(true);
        DUE.is("refused", game.count(12), 4);
        DUE.is("states", game.count(15), 4);
        for (int left = 3; left >= 0; left--) {
            DUE.is("undo()", game.undo(), left);
            DUE.is("refused", game.count(12), left);
        }
        DUE.same("as it was", Table.look(game), before);
    }

    private static void errorsAreNoChanges() {
        TankDivers game = new TankDivers();
        game.move(false);
        DUE.is("begin", game.begin(1, 1), -1);
        DUE.is("play", Table.play(game, "dx"), -2);
        DUE.is("restore", game.restore(), -2);
        DUE.is("states", game.count(15), 1);
    }

    private static void padStays() {
        TankDivers game = new TankDivers();
        game.move(false);
        Table.write(game, "dtd");
        game.undo();
        DUE.is("undo leaves the pad", game.count(14), 3);
        game.save();
        game.append('n');
        game.restore();
        DUE.is("restore leaves the pad", game.count(14), 4);
        DUE.is("with its letters", game.fault(), -4);
        game.begin(2, 3);
        DUE.is("begin leaves the pad", game.count(14), 4);
        DUE.is("play()", game.play(), 4);
        game.undo();
        DUE.is("the pad is not written again", game.count(14), 0);
    }

    private static void endOfARoundIsUndone() {
        TankDivers game = Table.showing(2, 4, 2, 6, 6);
        Table.play(game, "dtdtun");
        game.move(true);
        String before = Table.look(game);
        game.nothing();
        String behind = Table.look(game);
        DUE.is("round", game.count(2), 1);
        DUE.is("spaces", game.count(1), 14);
        game.undo();
        DUE.same("as before the end", Table.look(game), before);
        game.nothing();
        DUE.same("the same end again", Table.look(game), behind);
    }

    private static void endOfTheGameIsUndone() {
        TankDivers game = new TankDivers();
        for (int i = 0; i < 400 && game.count(2) < 3; i++) {
            if (game.count(4) == 0) {
                game.move(false);
            } else if (game.take() < 10) {
                game.nothing();
            }
        }
        DUE.is("the game is over", game.count(4), 2);
        DUE.is("undo()", game.undo(), 3);
        DUE.is("the third round", game.count(2), 2);
        DUE.is("time for a deed", game.count(4), 1);
        DUE.is("the tank is empty", game.count(5), 0);
    }

    private static void snapshots() {
        TankDivers game = Table.showing(2, 4, 2, 6, 6);
        DUE.is("no snapshot", game.restore(), -2);
        Table.play(game, "dtdt");
        String taken = Table.look(game);
        DUE.is("save()", game.save(), 0);
        int states = game.count(15);
        Table.play(game, "unun");
        String behind = Table.look(game);
        DUE.is("round", game.count(2), 1);
        DUE.is("restore()", game.restore(), 0);
        DUE.same("as in the snapshot", Table.look(game), taken);
        DUE.is("the history is not restored", game.count(15), states + 2);
        DUE.is("undo()", game.undo(), states + 1);
        DUE.same("as before restore", Table.look(game), behind);
        DUE.is("save() in place of the one that was", game.save(), 1);
        game.begin(4, 7);
        DUE.is("restore()", game.restore(), 1);
        DUE.same("as in the latest snapshot", Table.look(game), behind);
    }

    private static void snapshotsStay() {
        TankDivers game = new TankDivers();
        game.move(false);
        String taken = Table.look(game);
        game.save();
        for (int i = 0; i < 6; i++) {
            game.take();
            game.move(false);
            DUE.is("restore()", game.restore(), 0);
            DUE.same("restored again", Table.look(game), taken);
        }
        DUE.is("states", game.count(15), 4);
        while (game.undo() > 0) {
            DUE.is("the snapshot is not undone", game.count(0), 2);
        }
        DUE.is("restore()", game.restore(), 0);
        DUE.same("restored", Table.look(game), taken);
    }

    private static void snapshotOfRefusals() {
        TankDivers game = new TankDivers();
        game.take();
        game.save();
        game.take();
        game.take();
        DUE.is("refused", game.count(12), 3);
        game.restore();
        DUE.is("as in the snapshot", game.count(12), 1);
        game.begin(3, 3);
        DUE.is("begin keeps it", game.count(12), 1);
        game.undo();
        game.undo();
        DUE.is("as before restore", game.count(12), 3);
    }

    private static void stacksAndDrownedComeBack() {
        TankDivers game = new TankDivers();
        game.begin(3, 5);
        DUE.is("a round, and stacks in the next one",
                Table.play(game, "dtdtdtundtdtdndtdtdndtdtdndn") + Table.play(game, "dtdndtdt"), 36);
        String before = Table.look(game);
        DUE.is("drowned", game.diver(1, 8), 1);
        game.save();
        Table.play(game, "dtdtdndn");
        game.begin(3, 77);
        Table.play(game, "dtdtdt");
        DUE.is("undo()", game.undo(), 3);
        game.undo();
        game.undo();
        DUE.same("undone", Table.look(game), before);
        game.begin(3, 77);
        Table.play(game, "dtdtdt");
        game.restore();
        DUE.same("restored", Table.look(game), before);
    }

    /** As many calls as an object is used for, undone and done in turn. */
    private static void manyChanges() {
        TankDivers game = new TankDivers();
        TankDivers twin = new TankDivers();
        for (int i = 0; i < 84; i++) {
            boolean back = i % 4 == 3;
            game.move(back);
            game.nothing();
            game.undo();
            game.undo();
            game.move(back);
            game.nothing();
            twin.move(back);
            twin.nothing();
        }
        DUE.same("the same game", Table.look(game), Table.look(twin));
    }
}
