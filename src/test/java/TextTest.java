/** Promises 7 to 11: append, clear, fault, play, why. */
final class TextTest {
    private static final Due DUE = new Due();

    private TextTest() {
    }

    public static void main(String[] args) {
        appending();
        fullPad();
        faults();
        faultOfAFullPad();
        playing();
        stops();
        stopAtALay();
        layEachNumber();
        faultyPadsAreNotPlayed();
        whyIsKept();
        playIsOneChange();
        lettersOfThePad();
        DUE.end();
    }

    private static void appending() {
        TankDivers game = new TankDivers();
        int[] wrong = {32, 127, 0, -1, 33 - 256, 256 + 100, Integer.MIN_VALUE, Integer.MAX_VALUE};
        for (int code : wrong) {
            DUE.is("append(" + code + ")", game.append(code), -1);
        }
        DUE.is("nothing was appended", game.count(14), 0);
        DUE.is("append(33)", game.append(33), 1);
        DUE.is("append(126)", game.append(126), 2);
        DUE.is("length", game.count(14), 2);
        DUE.is("the pad is no change", game.count(15), 0);
        DUE.is("clear()", game.clear(), 2);
        DUE.is("length", game.count(14), 0);
        DUE.is("clear() again", game.clear(), 0);
        DUE.is("append(100)", game.append(100), 1);
    }

    private static void fullPad() {
        TankDivers game = new TankDivers();
        for (int i = 1; i <= 60; i++) {
            DUE.is("append " + i, game.append(i % 2 == 1 ? 'd' : 'n'), i);
        }
        DUE.is("the pad is full", game.append('d'), -3);
        DUE.is("INVALID_ARGUMENT rather than LIMIT_REACHED", game.append(32), -1);
        DUE.is("length", game.count(14), 60);
        DUE.is("no fault", game.fault(), -4);
        DUE.is("play()", game.play(), 60);
        DUE.is("empty then", game.count(14), 0);
        DUE.is("append", game.append('d'), 1);
    }

    private static void fault(String text, int want) {
        TankDivers game = new TankDivers();
        Table.write(game, text);
        DUE.is("fault of " + text, game.fault(), want);
        DUE.is("the pad stays", game.count(14), text.length());
        DUE.is("fault of " + text + " again", game.fault(), want);
        DUE.is("play() of " + text, game.play() == -2 ? 1 : 0, want == -4 ? 0 : 1);
    }

    private static void faults() {
        fault("", 0);
        fault("d", 1);
        fault("u", 1);
        fault("dt", -4);
        fault("un", -4);
        fault("dl", 2);
        fault("dl0", -4);
        fault("dl5", -4);
        fault("dl6", 2);
        fault("dl/", 2);
        fault("dll", 2);
        fault("dl00", 3);
        fault("dl0t", 3);
        fault("x", 0);
        fault("t", 0);
        fault("0", 0);
        fault("l0", 0);
        fault("dd", 1);
        fault("du", 1);
        fault("d0", 1);
        fault("dtt", 2);
        fault("dtd", 3);
        fault("dtdt", -4);
        fault("dtunul3dn", -4);
        fault("dtunul3dnx", 9);
        fault("dtxdn", 2);
        fault("D", 0);
        fault("dT", 1);
        fault("d!", 1);
        fault("dt~", 2);
        fault("dn5", 2);
    }

    private static void faultOfAFullPad() {
        TankDivers game = new TankDivers();
        Table.write(game, "dn".repeat(29) + "dl");
        DUE.is("length", game.count(14), 60);
        DUE.is("a longer text could begin so", game.fault(), 60);
        DUE.is("play()", game.play(), -2);
        DUE.is("length", game.count(14), 60);
        game.clear();
        Table.write(game, "dn".repeat(29) + "dd");
        DUE.is("no text begins so", game.fault(), 59);
    }

    private static void playing() {
        TankDivers text = Table.showing(2, 2, 4, 3);
        TankDivers hand = Table.showing(2, 2, 4, 3);
        DUE.is("play()", Table.play(text, "dtdndtun"), 8);
        hand.move(false);
        hand.take();
        hand.move(false);
        hand.nothing();
        hand.move(false);
        hand.take();
        hand.move(true);
        hand.nothing();
        DUE.same("the same as by hand", Table.look(text), Table.look(hand));
        DUE.is("the pad is empty", text.count(14), 0);
        DUE.is("all was done: no reason", text.why(0), -4);
        DUE.is("all was done: no position", text.why(1), -4);
    }

    private static void stops() {
        TankDivers game = Table.showing(2, 2, 4);
        DUE.is("turning back in the ship", Table.play(game, "undn"), 0);
        DUE.is("reason", game.why(0), 4);
        DUE.is("position", game.why(1), 0);
        DUE.is("it is counted once", game.count(12), 1);
        DUE.is("the pad is empty", game.count(14), 0);
        DUE.is("take on a blank space", Table.play(game, "dtdnl0".substring(0, 4)), 4);
        DUE.is("no reason any more", game.why(0), -4);
        game.move(false);
        DUE.is("time for a deed", Table.play(game, "dt"), 0);
        DUE.is("reason", game.why(0), 3);
        DUE.is("position", game.why(1), 0);
        DUE.is("it is counted", game.count(12), 2);
        TankDivers deed = Table.showing(2, 2, 4);
        DUE.is("stops at a deed", Table.play(deed, "dtdl0dn"), 3);
        DUE.is("reason: no such own stack", deed.why(0), 6);
        DUE.is("position of the letter, not of the digit", deed.why(1), 3);
        DUE.is("still time for the deed", deed.count(4), 1);
        DUE.is("of the diver 1", deed.count(3), 1);
        DUE.is("why(-1)", deed.why(-1), -1);
        DUE.is("why(2)", deed.why(2), -1);
        DUE.is("why(MAX)", deed.why(Integer.MAX_VALUE), -1);
    }

    private static void stopAtALay() {
        int x = Table.lotFor(4, 3, 2, 6, 4, 5, 2);
        TankDivers game = new TankDivers();
        game.begin(2, x);
        DUE.is("lays the middle one and goes on", Table.play(game, "dtdndtdndtdndl1dn"), 16);
        DUE.is("what was laid", game.space(7, 1), Table.valueAt(x, 5));
        DUE.is("two stacks", game.diver(0, 3), 2);
        TankDivers stop = new TankDivers();
        stop.begin(2, x);
        DUE.is("stops at the fourth stack", Table.play(stop, "dtdndtdndtdndl3dn"), 13);
        DUE.is("reason", stop.why(0), 6);
        DUE.is("position", stop.why(1), 13);
        TankDivers behind = new TankDivers();
        behind.begin(2, x);
        DUE.is("positions behind a digit count it", Table.play(behind, "dtdndtdndtdndl1dl0"), 15);
        DUE.is("reason", behind.why(0), 6);
        DUE.is("position", behind.why(1), 16);
    }

    private static void layEachNumber() {
        for (int number = 0; number <= 5; number++) {
            TankDivers game = Table.withSixStacks();
            int value = game.stack(0, number, 1);
            DUE.is("the move and the lay", Table.play(game, "dl" + number), 2);
            DUE.is("five are left", game.diver(0, 3), 5);
            DUE.is("it lies there", game.space(game.diver(0, 0), 1), value);
            DUE.is("and goes on behind it", Table.play(Table.withSixStacks(), "dl" + number + "dn"), 4);
        }
    }

    private static void faultyPadsAreNotPlayed() {
        TankDivers game = Table.showing(2, 2, 4);
        String before = Table.look(game);
        String[] texts = {"", "d", "dtx", "dl", "dtdd"};
        for (String text : texts) {
            DUE.is("play() of " + text, Table.play(game, text), -2);
            DUE.is("the pad stays", game.count(14), text.length());
        }
        DUE.same("nothing is changed", Table.look(game), before);
        DUE.is("it is no change", game.count(15), 1);
        DUE.is("no stop", game.why(0), -4);
    }

    private static void whyIsKept() {
        TankDivers game = Table.showing(2, 2, 4);
        DUE.is("play()", Table.play(game, "dnun"), 2);
        game.save();
        DUE.is("a pad with a fault", Table.play(game, "dx"), -2);
        DUE.is("the reason stays", game.why(0), 4);
        DUE.is("the position stays", game.why(1), 2);
        game.undo();
        DUE.is("it is not undone", game.why(1), 2);
        game.begin(2, 5);
        game.take();
        DUE.is("it is of play() alone", game.why(0), 4);
        game.clear();
        DUE.is("it is not of the pad", game.why(1), 2);
        game.restore();
        DUE.is("it is not restored", game.why(0), 4);
        TankDivers other = Table.showing(2, 2, 4);
        other.save();
        Table.play(other, "un");
        other.restore();
        DUE.is("a stop stays behind restore", other.why(0), 4);
        Table.play(other, "dn");
        DUE.is("the latest play() counts", other.why(0), -4);
        DUE.is("the latest play() counts", other.why(1), -4);
        other.undo();
        other.undo();
        DUE.is("and stays so", other.why(0), -4);
    }

    private static void playIsOneChange() {
        TankDivers game = Table.showing(2, 2, 4);
        String before = Table.look(game);
        Table.play(game, "dtdndndn");
        DUE.is("one state more", game.count(15), 2);
        DUE.is("undo()", game.undo(), 1);
        DUE.same("all turns are undone", Table.look(game), before);
        Table.play(game, "un");
        DUE.is("a change also if none is played", game.count(15), 2);
        DUE.is("undo()", game.undo(), 1);
        DUE.same("the refusal is undone", Table.look(game), before);
        DUE.is("the pad stays empty", game.count(14), 0);
    }

    private static void lettersOfThePad() {
        TankDivers game = new TankDivers();
        Table.write(game, "dtdt");
        game.clear();
        Table.write(game, "d");
        DUE.is("what was cleared is gone", game.fault(), 1);
        DUE.is("append", game.append('n'), 2);
        DUE.is("play()", game.play(), 2);
        DUE.is("fault of the empty pad", game.fault(), 0);
        DUE.is("play() of the empty pad", game.play(), -2);
    }
}
