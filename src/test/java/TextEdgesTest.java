/** Terms, 'Texts', and promises 7 to 11: each sentence that names an edge, one test for each. */
final class TextEdgesTest {
    private static final Due DUE = new Due();

    private TextEdgesTest() {
    }

    public static void main(String[] args) {
        emptyAtFirst();
        sixtyCharacters();
        codesOfCharacters();
        fullPadStays();
        clearTellsTheLength();
        oneTurnOrMore();
        eachLetterOfATurn();
        digits();
        ofAnyLength();
        notComplete();
        theFirstWrongOne();
        noFault();
        playsUpToTheRefused();
        refusedAtOnce();
        refusedAtTheEnd();
        refusedAsTheGameEnds();
        allSixtyArePlayed();
        aLayIsOneDeed();
        playWithAFault();
        whyOfTheLatest();
        whyOfNone();
        DUE.end();
    }

    private static TankDivers with(String text) {
        TankDivers game = new TankDivers();
        Table.write(game, text);
        return game;
    }

    private static void emptyAtFirst() {
        DUE.sentence("There is a pad of at most 60 characters, initially empty.");
        DUE.is("count(14)", new TankDivers().count(14), 0);
        DUE.is("clear()", new TankDivers().clear(), 0);
        DUE.is("fault()", new TankDivers().fault(), 0);
        DUE.is("play()", new TankDivers().play(), -2);
        DUE.is("append", new TankDivers().append('d'), 1);
    }

    private static void sixtyCharacters() {
        DUE.sentence("Returns the length of the pad then; INVALID_ARGUMENT; LIMIT_REACHED if it has 60 characters.");
        TankDivers game = new TankDivers();
        for (int length = 1; length <= 60; length++) {
            DUE.is("append", game.append('!'), length);
        }
        DUE.is("the 61st", game.append('!'), -3);
        DUE.is("the 61st again", game.append('~'), -3);
        DUE.is("length", game.count(14), 60);
        DUE.is("clear()", game.clear(), 60);
        DUE.is("append", game.append('!'), 1);
    }

    private static void codesOfCharacters() {
        DUE.sentence("- `code`: the character code, 33 to 126");
        for (int code = -300; code <= 400; code++) {
            boolean taken = code >= 33 && code <= 126;
            TankDivers game = new TankDivers();
            DUE.is("append(" + code + ")", game.append(code), taken ? 1 : -1);
            DUE.is("length", game.count(14), taken ? 1 : 0);
        }
        DUE.is("append(MIN)", new TankDivers().append(Integer.MIN_VALUE), -1);
        DUE.is("append(MAX)", new TankDivers().append(Integer.MAX_VALUE), -1);
        DUE.is("append(65536 + 100)", new TankDivers().append(65636), -1);
    }

    private static void fullPadStays() {
        DUE.sentence("A call that returns an error changes nothing (the pad stays, too).");
        TankDivers full = with("dn".repeat(30));
        DUE.is("append", full.append('x'), -3);
        DUE.is("append(127)", full.append(127), -1);
        DUE.is("no fault", full.fault(), -4);
        DUE.is("play()", full.play(), 60);
        TankDivers some = with("dn");
        DUE.is("append(32)", some.append(32), -1);
        DUE.is("no fault", some.fault(), -4);
        DUE.is("play()", some.play(), 2);
    }

    private static void clearTellsTheLength() {
        DUE.sentence("Returns the length that it had.");
        for (int length = 0; length <= 60; length += length == 1 ? 58 : 1) {
            TankDivers game = with("x".repeat(length));
            DUE.is("clear()", game.clear(), length);
            DUE.is("clear() again", game.clear(), 0);
            DUE.is("length", game.count(14), 0);
        }
        TankDivers played = with("dn");
        played.play();
        DUE.is("clear() behind play()", played.clear(), 0);
    }

    private static void oneTurnOrMore() {
        DUE.sentence("A game as a text is one or more turns, one behind the other:");
        DUE.is("no turn", with("").fault(), 0);
        DUE.is("one turn", with("dn").fault(), -4);
        DUE.is("two turns", with("dnun").fault(), -4);
        DUE.is("thirty turns", with("ut".repeat(30)).fault(), -4);
        DUE.is("twenty turns", with("dl5".repeat(20)).fault(), -4);
    }

    private static void eachLetterOfATurn() {
        DUE.sentence("\"d\" (a move without turning back) or \"u\" (with turning back), and then \"t\" (to take),"
                + " \"n\" (nothing) or \"l\" and a digit 0 to 5 (to lay down the stack of this number).");
        String[] before = {"", "dn", "ul0", "d", "u", "dl", "dnul"};
        String[] right = {"du", "du", "du", "tnl", "tnl", "012345", "012345"};
        for (int i = 0; i < before.length; i++) {
            for (char letter = 33; letter <= 126; letter++) {
                TankDivers game = with(before[i] + letter);
                int length = before[i].length();
                boolean complete = i >= 3 && letter != 'l';
                int due = right[i].indexOf(letter) < 0 ? length : complete ? -4 : length + 1;
                DUE.is("fault of " + before[i] + letter, game.fault(), due);
            }
        }
    }

    private static void digits() {
        DUE.sentence("\"l\" and a digit 0 to 5");
        DUE.is("before 0", with("dl/").fault(), 2);
        DUE.is("0", with("dl0").fault(), -4);
        DUE.is("5", with("dl5").fault(), -4);
        DUE.is("6", with("dl6").fault(), 2);
        for (int number = 0; number <= 5; number++) {
            TankDivers six = Table.withSixStacks();
            int value = six.stack(0, number, 1);
            DUE.is("one of six, and a turn behind it", Table.play(six, "dl" + number + "dn"), 4);
            DUE.is("it lies there", six.space(six.diver(0, 0), 1), value);
        }
        TankDivers none = new TankDivers();
        DUE.is("no such stack", Table.play(none, "dl0"), 1);
        DUE.is("reason", none.why(0), 6);
    }

    private static void ofAnyLength() {
        DUE.sentence("no text of turns, of any length, begins with the characters before it and this character;");
        DUE.is("a longer text begins so", with("dn".repeat(29) + "dl").fault(), 60);
        DUE.is("the last character", with("dn".repeat(28) + "dt" + "dd").fault(), 59);
        DUE.is("a longer text begins so", with("dl0".repeat(19) + "utd").fault(), 60);
        DUE.is("the last character", with("dl0".repeat(19) + "utt").fault(), 59);
        DUE.is("the digit", with("dl0".repeat(19) + "dl6").fault(), 59);
    }

    private static void notComplete() {
        DUE.sentence("if there is none, and the pad is not complete (also if it is empty), the length of the pad.");
        DUE.is("empty", with("").fault(), 0);
        DUE.is("d", with("d").fault(), 1);
        DUE.is("u", with("u").fault(), 1);
        DUE.is("dl", with("dl").fault(), 2);
        DUE.is("dtd", with("dtd").fault(), 3);
        DUE.is("dl3u", with("dl3u").fault(), 4);
        DUE.is("dl3ul", with("dl3ul").fault(), 5);
    }

    private static void theFirstWrongOne() {
        DUE.sentence("The fault of the pad is the position, from 0, of the first character that is wrong:");
        DUE.is("at once", with("xdn").fault(), 0);
        DUE.is("what is right behind it does not matter", with("tdtdn").fault(), 0);
        DUE.is("two wrong ones", with("dxdxdn").fault(), 1);
        DUE.is("in the middle", with("dndnndn").fault(), 4);
        DUE.is("at the end", with("dndnn").fault(), 4);
        TankDivers game = with("dx");
        DUE.is("fault", game.fault(), 1);
        DUE.is("append", game.append('n'), 3);
        DUE.is("it stays", game.fault(), 1);
    }

    private static void noFault() {
        DUE.sentence("Returns the fault; NOT_FOUND if it has none.");
        TankDivers game = new TankDivers();
        int[] due = {1, -4, 3, 4, -4, 6};
        String text = "dtul5d";
        for (int i = 0; i < due.length; i++) {
            game.append(text.charAt(i));
            DUE.is("fault of " + text.substring(0, i + 1), game.fault(), due[i]);
            DUE.is("it changes nothing", game.count(14), i + 1);
        }
    }

    /** The text is played, and done by hand up to its refused call; both come to the same. */
    private static void stops(int divers, int lot, String before, String text, int done, int reason, int position) {
        TankDivers game = Table.at(divers, lot, before);
        DUE.is("play() of " + text, Table.play(game, text), done);
        DUE.is("reason", game.why(0), reason);
        DUE.is("position", game.why(1), position);
        DUE.is("the pad is empty", game.count(14), 0);
        DUE.is("no turn in the pad", game.fault(), 0);
        char refused = text.charAt(position);
        String turns = text.substring(0, position + (refused == 'l' ? 2 : 1));
        TankDivers hand = Table.at(divers, lot, before + turns);
        DUE.is("counted once", game.count(12), 1);
        DUE.same("as by hand", Table.look(game), Table.look(hand));
    }

    private static void playsUpToTheRefused() {
        DUE.sentence("Plays the turns of the pad, one after the other, up to the first move or deed that is refused"
                + " (which is counted), and empties the pad.");
        stops(2, 1, "", "dtundtdt", 2, 4, 2);
        stops(2, 1, "", "dtdl0dtdt", 3, 6, 3);
        stops(2, 1, "dtdt", "dl0dtdn", 1, 7, 1);
        stops(2, 9610, "dndn", "utdndn", 1, 5, 1);
        stops(2, 9610, "dndn", "ul0dndn", 1, 5, 1);
        stops(2, 5445, "dtdtdtdt", "utdndn", 1, 6, 1);
        stops(2, 5445, "dtdtdtdt", "ul2dndn", 1, 6, 1);
        stops(2, 5445, "dtdtdtdt", "ul1dl2dn", 3, 6, 4);
    }

    private static void refusedAtOnce() {
        DUE.sentence("This is one change, also if none is played.");
        stops(2, 1, "", "undndn", 0, 4, 0);
        stops(2, 1, "d", "dtdn", 0, 3, 0);
        TankDivers game = Table.at(2, 1, "");
        Table.play(game, "undndn");
        DUE.is("states", game.count(15), 2);
        DUE.is("undo()", game.undo(), 1);
        DUE.same("as before", Table.look(game), Table.look(Table.at(2, 1, "")));
        TankDivers more = Table.at(2, 1, "");
        DUE.is("all are played", Table.play(more, "dndndndn"), 8);
        DUE.is("one state for all", more.count(15), 2);
        DUE.is("undo()", more.undo(), 1);
        DUE.same("as before", Table.look(more), Table.look(Table.at(2, 1, "")));
    }

    /** Both divers are at the end of the path; the one who took the last stack there can't take another. */
    private static void refusedAtTheEnd() {
        DUE.sentence("1: the position of its letter in the pad");
        TankDivers game = new TankDivers();
        for (int i = 0; i < 30; i++) {
            Table.act(game, "dn");
        }
        Table.act(game, "dt");
        DUE.is("play()", Table.play(game, "dn".repeat(29) + "dt"), 59);
        DUE.is("reason", game.why(0), 6);
        DUE.is("the last position", game.why(1), 59);
        DUE.is("play()", Table.play(game, "dl1dn"), 0);
        DUE.is("reason", game.why(0), 3);
        DUE.is("the first position", game.why(1), 0);
    }

    private static void refusedAsTheGameEnds() {
        DUE.sentence("up to the first move or deed that is refused");
        TankDivers game = Table.at(2, 1, "");
        Table.endRound(game);
        Table.endRound(game);
        String turns = "";
        while (game.count(2) == 2) {
            turns += turnOf(game);
        }
        DUE.is("over", game.count(4), 2);
        TankDivers again = Table.at(2, 1, "");
        Table.endRound(again);
        Table.endRound(again);
        DUE.is("play()", Table.play(again, turns + "dndn"), turns.length());
        DUE.is("reason", again.why(0), 1);
        DUE.is("position", again.why(1), turns.length());
        DUE.is("counted", again.count(12), 1);
        DUE.is("play()", Table.play(again, "un"), 0);
        DUE.is("position", again.why(1), 0);
    }

    private static String turnOf(TankDivers game) {
        int diver = game.count(3);
        String turn = game.diver(diver, 1) == 0 && game.diver(diver, 0) > 0 ? "un" : "dn";
        Table.act(game, turn);
        return turn;
    }

    private static void allSixtyArePlayed() {
        DUE.sentence("Returns how many moves and deeds are done; NOT_POSSIBLE if the pad has a fault.");
        TankDivers game = new TankDivers();
        DUE.is("play()", Table.play(game, "dn".repeat(30)), 60);
        DUE.same("as by hand", Table.look(game), Table.look(Table.at(2, 1, "dn".repeat(30))));
        DUE.is("one turn", Table.play(game, "dn"), 2);
    }

    private static void aLayIsOneDeed() {
        DUE.sentence("Returns how many moves and deeds are done;");
        TankDivers game = Table.at(2, 5445, "dtdtdtdt");
        DUE.is("play()", Table.play(game, "ul1dn"), 4);
        DUE.is("all was done", game.why(0), -4);
        DUE.same("as by hand", Table.look(game), Table.look(Table.at(2, 5445, "dtdtdtdtul1dn")));
    }

    private static void playWithAFault() {
        DUE.sentence("NOT_POSSIBLE if the pad has a fault.");
        String[] faulty = {"", "d", "dl", "x", "dnx", "dnd", "dl6", "dn".repeat(29) + "dl"};
        for (String text : faulty) {
            new Twins(DUE).same("play() of " + text, () -> {
                TankDivers game = stopped();
                Table.write(game, text);
                DUE.is("play() of " + text, game.play(), -2);
                return game;
            }, () -> {
                TankDivers game = stopped();
                Table.write(game, text);
                return game;
            });
        }
    }

    /** A game with a snapshot and a stop of play(). */
    private static TankDivers stopped() {
        TankDivers game = Table.at(2, 1, "dt");
        game.save();
        Table.play(game, "dnundl1");
        return game;
    }

    private static void whyOfTheLatest() {
        DUE.sentence("Tells about the move or deed at which the latest call of play() that returned no error stopped."
                + " (This is not a part of what is undone, or restored.)");
        TankDivers game = stopped();
        DUE.is("reason", game.why(0), 6);
        DUE.is("position", game.why(1), 5);
        DUE.is("an error", Table.play(game, "x"), -2);
        game.clear();
        game.undo();
        game.restore();
        game.begin(3, 3);
        game.take();
        DUE.is("the reason stays", game.why(0), 6);
        DUE.is("the position stays", game.why(1), 5);
        DUE.is("another stop", Table.play(game, "dndnun"), 4);
        DUE.is("its reason", game.why(0), 4);
        DUE.is("its position", game.why(1), 4);
        DUE.is("why(-1)", game.why(-1), -1);
        DUE.is("why(2)", game.why(2), -1);
        DUE.is("all was done", Table.play(game, "dn"), 2);
        DUE.is("reason", game.why(0), -4);
        DUE.is("position", game.why(1), -4);
        game.undo();
        DUE.is("it is not undone", game.why(0), -4);
    }

    private static void whyOfNone() {
        DUE.sentence("Returns the number; INVALID_ARGUMENT; NOT_FOUND if there was no such call, or all was done.");
        TankDivers game = new TankDivers();
        game.take();
        game.play();
        int[] whats = {Integer.MIN_VALUE, -1, 0, 1, 2, Integer.MAX_VALUE};
        for (int what : whats) {
            DUE.is("why(" + what + ")", game.why(what), what == 0 || what == 1 ? -4 : -1);
        }
        Table.play(game, "dn");
        for (int what : whats) {
            DUE.is("why(" + what + ")", game.why(what), what == 0 || what == 1 ? -4 : -1);
        }
        Table.play(game, "un");
        for (int what : whats) {
            DUE.is("why(" + what + ")", game.why(what), what == 0 ? 4 : what == 1 ? 0 : -1);
        }
    }
}
