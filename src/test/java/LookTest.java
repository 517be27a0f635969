/** Promises 12 to 16: diver, stack, space, count, leader. */
final class LookTest {
    private static final Due DUE = new Due();

    private LookTest() {
    }

    public static void main(String[] args) {
        wrongArguments();
        divers();
        stacks();
        spaces();
        counts();
        refusals();
        values();
        leaders();
        looksChangeNothing();
        DUE.end();
    }

    private static void wrongArguments() {
        TankDivers game = Table.showing(3, 2, 4);
        game.move(false);
        game.take();
        int[] far = {Integer.MIN_VALUE, -1, Integer.MAX_VALUE};
        for (int wrong : far) {
            DUE.is("diver(" + wrong + ", 0)", game.diver(wrong, 0), -1);
            DUE.is("diver(0, " + wrong + ")", game.diver(0, wrong), -1);
            DUE.is("stack(" + wrong + ", 0, 0)", game.stack(wrong, 0, 0), -1);
            DUE.is("stack(0, 0, " + wrong + ")", game.stack(0, 0, wrong), -1);
            DUE.is("space(" + wrong + ", 0)", game.space(wrong, 0), -1);
            DUE.is("space(1, " + wrong + ")", game.space(1, wrong), -1);
            DUE.is("count(" + wrong + ")", game.count(wrong), -1);
        }
        DUE.is("diver(3, 0)", game.diver(3, 0), -1);
        DUE.is("diver(2, 0)", game.diver(2, 0), 0);
        DUE.is("diver(0, 9)", game.diver(0, 9), -1);
        DUE.is("stack(3, 0, 0)", game.stack(3, 0, 0), -1);
        DUE.is("stack(0, -1, 0)", game.stack(0, -1, 0), -1);
        DUE.is("stack(0, MIN, 0)", game.stack(0, Integer.MIN_VALUE, 0), -1);
        DUE.is("stack(0, 0, 4)", game.stack(0, 0, 4), -1);
        DUE.is("INVALID_ARGUMENT rather than NOT_FOUND", game.stack(0, 5, 4), -1);
        DUE.is("INVALID_ARGUMENT rather than NOT_FOUND", game.stack(3, 5, 0), -1);
        DUE.is("space(0, 0)", game.space(0, 0), -1);
        DUE.is("space(17, 0)", game.space(17, 0), -1);
        DUE.is("space(1, 3)", game.space(1, 3), -1);
        DUE.is("count(16)", game.count(16), -1);
    }

    private static void divers() {
        int x = Table.lotFor(3, 4, 5);
        TankDivers game = Table.showing(3, 3, 4, 5);
        game.move(false);
        game.take();
        game.move(false);
        game.nothing();
        int[] zero = {3, 0, 0, 1, 1, Table.valueAt(x, 3), 0, 0, 0};
        for (int what = 0; what <= 8; what++) {
            DUE.is("diver(0, " + what + ")", game.diver(0, what), zero[what]);
            DUE.is("diver(2, " + what + ")", game.diver(2, what), 0);
        }
        DUE.is("the second one stepped over the first", game.diver(1, 0), 5);
        game.move(false);
        game.nothing();
        game.move(true);
        DUE.is("goes up", game.diver(0, 1), 1);
        DUE.is("the others go down", game.diver(1, 1), 0);
        DUE.is("home or not, by the place", game.diver(0, 2), game.diver(0, 0) == 0 ? 1 : 0);
    }

    private static void stacks() {
        int x = Table.lotFor(3, 4, 5);
        TankDivers game = Table.showing(2, 3, 4, 5);
        DUE.is("no stack yet", game.stack(0, 0, 0), -4);
        DUE.is("no stack yet", game.stack(0, 0, 1), -4);
        game.move(false);
        game.take();
        DUE.is("size", game.stack(0, 0, 0), 1);
        DUE.is("first", game.stack(0, 0, 1), Table.valueAt(x, 3));
        DUE.is("second", game.stack(0, 0, 2), -4);
        DUE.is("third", game.stack(0, 0, 3), -4);
        DUE.is("no second stack", game.stack(0, 1, 0), -4);
        DUE.is("no such stack", game.stack(0, Integer.MAX_VALUE, 0), -4);
        DUE.is("no seventh stack", game.stack(0, 6, 1), -4);
        DUE.is("none of the other one", game.stack(1, 0, 0), -4);
        game.move(false);
        DUE.is("take", game.take(), 11);
        DUE.is("its own", game.stack(1, 0, 1), Table.valueAt(x, 5));
        DUE.is("not the other one's", game.stack(0, 0, 1), Table.valueAt(x, 3));
    }

    private static void spaces() {
        int x = Table.lotFor(3, 4, 5);
        TankDivers game = Table.showing(2, 3, 4, 5);
        DUE.is("nobody on 3", game.space(3, 2), -4);
        game.move(false);
        DUE.is("0 on 3", game.space(3, 2), 0);
        DUE.is("it is still there", game.space(3, 0), 1);
        DUE.is("its value", game.space(3, 1), Table.valueAt(x, 3));
        game.take();
        DUE.is("taken", game.space(3, 0), 0);
        DUE.is("without value", game.space(3, 1), 0);
        DUE.is("still there", game.space(3, 2), 0);
        game.move(false);
        DUE.is("1 on 5", game.space(5, 2), 1);
        DUE.is("nobody on the last one", game.space(16, 2), -4);
        DUE.is("the last one", game.space(16, 1), Table.valueAt(x, 16));
    }

    private static void counts() {
        TankDivers game = Table.showing(4, 3, 4, 5);
        int x = Table.lotFor(3, 4, 5);
        game.move(false);
        game.take();
        Table.write(game, "dtx");
        game.move(false);
        int value = Table.valueAt(x, 3);
        int[] counts = {4, 16, 0, 1, 1, 25, 1, 120 - value, value, 0, 16, 4, 0, Table.lotAfter(x, 20), 3, 4};
        for (int what = 0; what < counts.length; what++) {
            DUE.is("count(" + what + ")", game.count(what), counts[what]);
        }
        game.undo();
        DUE.is("dice of the move before", game.count(11), 3);
        DUE.is("states", game.count(15), 3);
    }

    private static void refusals() {
        TankDivers game = new TankDivers();
        game.take();
        game.lay(0);
        game.nothing();
        game.move(true);
        DUE.is("four were refused", game.count(12), 4);
        game.begin(5, 0);
        game.play();
        game.restore();
        game.homeward(1);
        game.chances(0, true, 0);
        DUE.is("errors do not count", game.count(12), 4);
        DUE.is("four states", game.count(15), 4);
        game.move(false);
        game.move(false);
        DUE.is("five were refused", game.count(12), 5);
        DUE.is("refusals are no moves", game.count(13), Table.lotAfter(1, 18));
    }

    private static void values() {
        TankDivers game = new TankDivers();
        game.begin(3, 4321);
        for (int i = 0; i < 200 && game.count(2) < 3; i++) {
            game.move(i % 5 == 4 && game.diver(game.count(3), 1) == 0 && game.diver(game.count(3), 0) > 0);
            if (game.count(4) == 0) {
                game.move(false);
            }
            if (game.take() < 10) {
                game.nothing();
            }
            int path = 0;
            int blank = 0;
            for (int space = 1; space <= game.count(1); space++) {
                path += game.space(space, 1);
                blank += game.space(space, 0) == 0 ? 1 : 0;
            }
            int held = 0;
            int own = 0;
            for (int diver = 0; diver < 3; diver++) {
                held += game.diver(diver, 5);
                own += game.diver(diver, 6);
            }
            DUE.is("values of the path", game.count(7), path);
            DUE.is("values of stacks", game.count(8), held);
            DUE.is("values that are brought", game.count(9), own);
            DUE.is("all together", path + held + own, 120);
            DUE.is("blank spaces", game.count(6), blank);
            DUE.is("treasures of the game", game.count(10), 16);
        }
    }

    private static void leaders() {
        DUE.is("nobody leads: the lowest number", new TankDivers().leader(), 0);
        TankDivers game = Table.showing(2, 2, 5, 2, 6);
        game.move(false);
        game.nothing();
        game.move(false);
        game.take();
        DUE.is("only what is brought counts", game.leader(), 0);
        for (int i = 0; i < 20 && game.count(2) == 0; i++) {
            game.move(game.diver(game.count(3), 1) == 0);
            game.nothing();
        }
        DUE.so("1 has brought something", game.diver(1, 6) > 0);
        DUE.is("1 leads", game.leader(), 1);
    }

    private static void looksChangeNothing() {
        TankDivers game = Table.showing(3, 3, 4, 5);
        game.move(false);
        game.take();
        String before = Table.look(game);
        int states = game.count(15);
        game.chances(5, false, 0);
        game.chances(5, false, 1);
        game.homeward(6);
        game.brought();
        game.used();
        game.fault();
        game.why(0);
        game.save();
        DUE.same("nothing is changed", Table.look(game), before);
        DUE.is("nothing is recorded", game.count(15), states);
        TankDivers twin = Table.showing(3, 3, 4, 5);
        twin.move(false);
        twin.take();
        DUE.is("the dice are the same", game.move(false), twin.move(false));
    }
}
