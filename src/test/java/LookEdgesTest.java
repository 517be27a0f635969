/** Promises 12 to 20: each sentence that names an edge, one test for each. */
final class LookEdgesTest {
    private static final Due DUE = new Due();
    private static final int[] FAR = {Integer.MIN_VALUE, Integer.MIN_VALUE + 1, -1000, -2, -1, 100, 1000,
        Integer.MAX_VALUE - 1, Integer.MAX_VALUE};

    /** All treasures of this game of 4 divers with the lot 4940 are brought in two rounds. */
    private static final String ALL_BROUGHT =
            "dtdndtdtdtdtdndndtdtdndtdnutdtdtdndndtdndtdtdtdtdtdnutdnundndtutdnundndndndndn";

    private LookEdgesTest() {
    }

    public static void main(String[] args) {
        numbersOfDivers();
        propertiesOfDivers();
        deepestPlace();
        upOrNot();
        homeInThisRound();
        treasuresOfStacks();
        scoreAndTreasures();
        roundsOfDrowning();
        stacksOfADiver();
        treasuresOfAStack();
        spacesOfThePath();
        noSpaceAtAll();
        sizesOfSpaces();
        diverOnASpace();
        numbersOfCounts();
        spacesThatAreBlank();
        diceOfTheLatestMove();
        nobodyOnTurn();
        breathsInTheTank();
        treasuresOfTheGame();
        padAndHistory();
        greatestScore();
        placesOfChances();
        waysOfChances();
        allNineThrows();
        movesThatWouldBeRefused();
        oneToSixMoves();
        neverOrAlwaysHome();
        homeFromTheLastSpaces();
        tankDoesNotMatter();
        othersDoNothing();
        fromTheShipOrADeed();
        moreThanTheTank();
        usedByThoseWhoAreOut();
        nothingOrAllBrought();
        looksChangeNothing();
        DUE.end();
    }

    private static void numbersOfDivers() {
        DUE.sentence("- `diver`: its number");
        for (int divers = 2; divers <= 4; divers++) {
            TankDivers game = Table.at(divers, 1, "");
            for (int diver = -2; diver <= 6; diver++) {
                boolean one = diver >= 0 && diver < divers;
                DUE.is("diver(" + diver + ", 8) of " + divers, game.diver(diver, 8), one ? 0 : -1);
                DUE.is("stack(" + diver + ", 0, 0) of " + divers, game.stack(diver, 0, 0), one ? -4 : -1);
            }
            for (int diver : FAR) {
                DUE.is("diver(" + diver + ", 0)", game.diver(diver, 0), -1);
                DUE.is("stack(" + diver + ", 0, 0)", game.stack(diver, 0, 0), -1);
            }
        }
        TankDivers fewer = Table.at(4, 1, "dtdtdtdt");
        fewer.begin(2, 1);
        DUE.is("behind a game of four", fewer.diver(2, 0), -1);
        DUE.is("behind a game of four", fewer.stack(3, 0, 0), -1);
    }

    private static void propertiesOfDivers() {
        DUE.sentence("8: rounds in which the diver drowned so far (was not home at the end) in this game");
        TankDivers game = Table.at(2, 1, "dt");
        for (int what = -3; what <= 12; what++) {
            DUE.is("diver(0, " + what + ")", game.diver(0, what) == -1 ? -1 : 0, what < 0 || what > 8 ? -1 : 0);
        }
        for (int what : FAR) {
            DUE.is("diver(0, " + what + ")", game.diver(0, what), -1);
        }
    }

    private static void deepestPlace() {
        DUE.sentence("0: the place, 0 for the ship;");
        DUE.is("in the ship", new TankDivers().diver(1, 0), 0);
        TankDivers game = Table.at(4, 155, "dtdndndndtdndnd");
        DUE.is("on the last space", game.diver(3, 0), 16);
        DUE.is("who is there", game.space(16, 2), 3);
        DUE.is("at home", Table.at(2, 9610, "dndnu").diver(0, 0), 0);
    }

    private static void upOrNot() {
        DUE.sentence("1: 1 if the diver goes up, otherwise 0;");
        DUE.is("in the ship", new TankDivers().diver(0, 1), 0);
        DUE.is("down", Table.at(2, 3944, "dtdt").diver(0, 1), 0);
        DUE.is("up", Table.at(2, 3944, "dtdtu").diver(0, 1), 1);
        DUE.is("the other one", Table.at(2, 3944, "dtdtu").diver(1, 1), 0);
        DUE.is("up at home", Table.at(2, 9610, "dndnu").diver(0, 1), 1);
    }

    private static void homeInThisRound() {
        DUE.sentence("2: 1 if the diver is home in this round, otherwise 0;");
        TankDivers game = Table.at(4, 466, "dndndndnunununu");
        for (int diver = 0; diver < 4; diver++) {
            DUE.is("home", game.diver(diver, 2), 1);
        }
        game.nothing();
        for (int diver = 0; diver < 4; diver++) {
            DUE.is("not in the next round", game.diver(diver, 2), 0);
        }
        DUE.is("in the ship, not home", new TankDivers().diver(0, 2), 0);
    }

    /** The diver 0 took the space of three treasures first, then others. */
    private static void treasuresOfStacks() {
        DUE.sentence("3: stacks that the diver has; 4: their treasures; 5: their values together;");
        TankDivers game = Table.at(2, 9659, "dtdtdtdtdtdtdtdtdtdtdndtdtdtdtdtd");
        int diver = game.count(3);
        DUE.is("a stack of three", game.stack(diver, 0, 0), 3);
        int treasures = 0;
        int values = 0;
        for (int stack = 0; stack < game.diver(diver, 3); stack++) {
            treasures += game.stack(diver, stack, 0);
            for (int i = 1; i <= game.stack(diver, stack, 0); i++) {
                values += game.stack(diver, stack, i);
            }
        }
        DUE.is("treasures", game.diver(diver, 4), treasures);
        DUE.is("values", game.diver(diver, 5), values);
        DUE.so("more treasures than stacks", treasures > game.diver(diver, 3));
        int space = game.diver(diver, 0);
        int first = game.stack(diver, 0, 1) + game.stack(diver, 0, 2) + game.stack(diver, 0, 3);
        int stacks = game.diver(diver, 3);
        DUE.is("lay the three", game.lay(0), 10 + stacks - 1);
        DUE.is("three lie there", game.space(space, 0), 3);
        DUE.is("with their values", game.space(space, 1), first);
        DUE.is("none at first", new TankDivers().diver(0, 3), 0);
        TankDivers six = Table.withSixStacks();
        DUE.is("six at most", six.diver(0, 3), 6);
        DUE.is("their treasures", six.diver(0, 4), 6);
        for (int what = 3; what <= 5; what++) {
            DUE.is("the other one has none: diver(1, " + what + ")", six.diver(1, what), 0);
        }
    }

    private static void scoreAndTreasures() {
        DUE.sentence("6: the score; 7: treasures that are the diver's;");
        TankDivers game = Table.at(2, 7276, "dtdtunu");
        int[] values = {game.diver(0, 5), game.diver(1, 5)};
        DUE.is("both are home", game.diver(0, 2) + game.diver(1, 2), 2);
        DUE.is("not before the end of the round", game.diver(0, 6) + game.diver(0, 7), 0);
        game.nothing();
        for (int diver = 0; diver < 2; diver++) {
            DUE.is("score", game.diver(diver, 6), values[diver]);
            DUE.is("treasures", game.diver(diver, 7), 1);
            DUE.is("no stacks then", game.diver(diver, 3), 0);
        }
        TankDivers all = Table.at(4, 4940, ALL_BROUGHT);
        int treasures = 0;
        int score = 0;
        for (int diver = 0; diver < 4; diver++) {
            treasures += all.diver(diver, 7);
            score += all.diver(diver, 6);
        }
        DUE.is("all sixteen", treasures, 16);
        DUE.is("all values", score, 120);
    }

    private static void roundsOfDrowning() {
        DUE.sentence("8: rounds in which the diver drowned so far (was not home at the end) in this game");
        TankDivers game = Table.at(2, 1, "");
        for (int i = 0; i < 120 && game.count(2) < 3; i++) {
            int round = game.count(2);
            DUE.is("drowned so far", game.diver(0, 8), round);
            game.move(false);
            if (game.diver(0, 3) + game.diver(1, 3) > 5 || game.take() < 10) {
                game.nothing();
            }
        }
        DUE.is("in all three rounds", game.diver(0, 8) * 10 + game.diver(1, 8), 33);
        game.begin(2, 1);
        DUE.is("in this game", game.diver(0, 8), 0);
        DUE.is("home without stacks is not drowned", Table.at(4, 466, "dndndndnunununun").diver(3, 8), 0);
        TankDivers one = Table.at(3, 90, "dtdtdtututdtdndndtdtdndtdn");
        int[] drowned = {one.diver(0, 8), one.diver(1, 8), one.diver(2, 8)};
        DUE.is("of three who were home, home and out", drowned[0] * 100 + drowned[1] * 10 + drowned[2], 1);
        DUE.is("out without stacks is drowned, too", outWithoutStacks().diver(1, 8), 1);
    }

    /** The diver 1 never takes a stack, and is out when the tank is empty. */
    private static TankDivers outWithoutStacks() {
        TankDivers game = Table.at(2, 1, "");
        for (int i = 0; i < 60 && game.count(2) == 0; i++) {
            game.move(false);
            if (game.count(3) == 1 || game.take() < 10) {
                DUE.is("no stacks", game.diver(1, 3), 0);
                game.nothing();
            }
        }
        return game;
    }

    private static void stacksOfADiver() {
        DUE.sentence("NOT_FOUND if there are not so many stacks.");
        TankDivers game = Table.withSixStacks();
        for (int stack = 0; stack <= 9; stack++) {
            DUE.is("stack(0, " + stack + ", 0)", game.stack(0, stack, 0), stack < 6 ? 1 : -4);
            DUE.is("stack(1, " + stack + ", 0)", game.stack(1, stack, 0), -4);
        }
        TankDivers last = Table.at(4, 46, "dndndndtdndndndtdndndndtdndndndtdndndndtdndndndt");
        DUE.is("the last diver has six", last.diver(3, 3), 6);
        for (int stack = 0; stack <= 6; stack++) {
            DUE.is("stack(3, " + stack + ", 0)", last.stack(3, stack, 0), stack < 6 ? 1 : -4);
            DUE.so("its value", stack == 6 || last.stack(3, stack, 1) >= 0);
        }
        for (int stack : FAR) {
            DUE.is("stack(0, " + stack + ", 0)", game.stack(0, stack, 0), stack < 0 ? -1 : -4);
            DUE.is("stack(0, " + stack + ", 3)", game.stack(0, stack, 3), stack < 0 ? -1 : -4);
        }
        Table.act(game, "dl5");
        DUE.is("behind laying one down", game.stack(0, 5, 0), -4);
        DUE.is("the last one", game.stack(0, 4, 0), 1);
    }

    private static void treasuresOfAStack() {
        DUE.sentence("1 to 3: the values of the first one (at the bottom), the second, the third one, NOT_FOUND"
                + " without one");
        TankDivers game = Table.at(2, 9659, "dtdtdtdtdtdtdtdtdtdtdndtdtdtdtdtd");
        int diver = game.count(3);
        for (int stack = 0; stack < game.diver(diver, 3); stack++) {
            int size = game.stack(diver, stack, 0);
            DUE.so("1 to 3", size >= 1 && size <= 3);
            for (int what = 1; what <= 3; what++) {
                DUE.is("a value, or none", game.stack(diver, stack, what) == -4 ? -4 : 0, what <= size ? 0 : -4);
            }
            DUE.is("stack(.., -1)", game.stack(diver, stack, -1), -1);
            DUE.is("stack(.., 4)", game.stack(diver, stack, 4), -1);
        }
        for (int what : FAR) {
            DUE.is("stack(.., " + what + ")", game.stack(diver, 0, what), -1);
        }
        TankDivers two = Table.at(2, 6891, "dtdtundtutdtdndtdndndndtdt");
        int taker = 1 - two.count(3);
        int last = two.diver(taker, 3) - 1;
        DUE.is("a stack of two", two.stack(taker, last, 0), 2);
        DUE.so("the second one", two.stack(taker, last, 2) >= 0);
        DUE.is("no third one", two.stack(taker, last, 3), -4);
    }

    private static void spacesOfThePath() {
        DUE.sentence("- `space`: 1 to the last one");
        TankDivers game = Table.at(4, 6581, "dtdtdtdtdtunututdtdndnutdtdtdn");
        int last = game.count(1);
        DUE.so("the path has become short", last < 8);
        for (int space = -1; space <= 18; space++) {
            boolean one = space >= 1 && space <= last;
            DUE.is("space(" + space + ", 0)", game.space(space, 0) == -1 ? -1 : 0, one ? 0 : -1);
            DUE.is("chances(" + space + ", false, 0)", game.chances(space, false, 0) == -1 ? -1 : 0,
                    space == 0 || one ? 0 : -1);
        }
        for (int space : FAR) {
            DUE.is("space(" + space + ", 0)", game.space(space, 0), -1);
        }
        for (int what = -2; what <= 5; what++) {
            int told = game.space(last, what);
            DUE.is("space(.., " + what + ")", told == -1 ? -1 : 0, what < 0 || what > 2 ? -1 : 0);
        }
        for (int what : FAR) {
            DUE.is("space(.., " + what + ")", game.space(last, what), -1);
        }
    }

    private static void noSpaceAtAll() {
        DUE.sentence("Blank spaces go out of the path,");
        TankDivers game = Table.at(4, 4940, ALL_BROUGHT);
        DUE.is("spaces", game.count(1), 0);
        DUE.is("blank spaces", game.count(6), 0);
        DUE.is("the first space", game.space(1, 0), -1);
        DUE.is("the ship", game.space(0, 2), -1);
        DUE.is("chances of the ship", game.chances(0, false, 0), 9);
        DUE.is("chances of a space", game.chances(1, false, 1), -1);
        DUE.is("who goes down stays in the ship", game.move(false), 10);
        DUE.is("and is not home", game.diver(0, 2) + game.diver(1, 2) + game.diver(2, 2) + game.diver(3, 2), 0);
        DUE.is("take", game.take(), 5);
        DUE.is("lay", game.lay(0), 5);
        DUE.is("nothing", game.nothing(), 10);
    }

    private static void sizesOfSpaces() {
        DUE.sentence("0: how many treasures it has, 0 for a blank one; 1: their values together;");
        TankDivers game = Table.at(4, 8219, "dtdtdtdt");
        for (int diver = 0; diver < 4; diver++) {
            DUE.is("blank", game.space(game.diver(diver, 0), 0), 0);
            DUE.is("no values", game.space(game.diver(diver, 0), 1), 0);
        }
        boolean[] sizes = new boolean[4];
        TankDivers later = Table.at(2, 9659, "dtdtdtdtdtdtdtdtdtdtdndt");
        for (int space = 1; space <= later.count(1); space++) {
            int size = later.space(space, 0);
            DUE.so("0 to 3", size >= 0 && size <= 3);
            sizes[size] = true;
        }
        DUE.so("blank ones, of one and of three", sizes[0] && sizes[1] && sizes[3]);
    }

    private static void diverOnASpace() {
        DUE.sentence("2: the diver there, NOT_FOUND without one");
        TankDivers game = Table.at(4, 466, "dndndndn");
        int found = 0;
        for (int space = 1; space <= 16; space++) {
            int there = game.space(space, 2);
            DUE.so("the place", there == -4 || game.diver(there, 0) == space);
            found += there == -4 ? 0 : 1 << there;
        }
        DUE.is("each of the four", found, 15);
        TankDivers fewer = Table.at(4, 466, "dndndndn");
        fewer.begin(2, 466);
        for (int space = 1; space <= 16; space++) {
            DUE.is("nobody in another game", fewer.space(space, 2), -4);
        }
    }

    private static void numbersOfCounts() {
        DUE.sentence("0: divers; 1: spaces; 2: the round, 3 if the game is over;");
        TankDivers game = Table.at(3, 5, "dt");
        for (int what = -3; what <= 20; what++) {
            DUE.is("count(" + what + ")", game.count(what) == -1 ? -1 : 0, what < 0 || what > 15 ? -1 : 0);
        }
        for (int what : FAR) {
            DUE.is("count(" + what + ")", game.count(what), -1);
        }
    }

    private static void spacesThatAreBlank() {
        DUE.sentence("6: blank spaces; 7: the values of all treasures of the path together;");
        TankDivers game = new TankDivers();
        DUE.is("none", game.count(6), 0);
        int blank = 0;
        int values = 120;
        for (int i = 0; i < 12 && game.count(2) == 0; i++) {
            game.move(false);
            values -= game.space(Table.place(game), 1);
            if (game.take() >= 10) {
                blank++;
            } else {
                game.nothing();
            }
            if (game.count(2) == 0) {
                DUE.is("blank spaces", game.count(6), blank);
                DUE.is("values", game.count(7), values);
            }
        }
        DUE.so("some are blank", blank > 4);
        Table.endRound(game);
        DUE.is("none behind the round", game.count(6), 0);
    }

    private static void diceOfTheLatestMove() {
        DUE.sentence("11: what both dice of the latest move showed together, 0 without a move in this game;");
        TankDivers game = new TankDivers();
        DUE.is("no move", game.count(11), 0);
        game.move(true);
        DUE.is("a refused move", game.count(11), 0);
        game.move(false);
        int dice = game.count(11);
        DUE.is("the move", dice, game.diver(0, 0));
        game.move(false);
        DUE.is("a refused move throws no dice", game.count(11), dice);
        game.nothing();
        DUE.is("a deed throws no dice", game.count(11), dice);
        game.begin(2, 1);
        DUE.is("no move in this game", game.count(11), 0);
        DUE.is("least", Table.showing(2, 2).move(false), 12);
        DUE.is("greatest", Table.showing(2, 6).move(false), 16);
    }

    private static void nobodyOnTurn() {
        DUE.sentence("3: the diver on turn, NOT_FOUND if the game is over; 4: 0 if it is time for a move, 1 for a"
                + " deed, 2 if the game is over;");
        TankDivers game = new TankDivers();
        for (int round = 0; round < 3; round++) {
            DUE.is("round", game.count(2), round);
            DUE.so("somebody is on turn", game.count(3) >= 0);
            DUE.is("a move", game.count(4), 0);
            game.move(false);
            DUE.is("a deed", game.count(4), 1);
            game.nothing();
            Table.endRound(game);
        }
        DUE.is("round", game.count(2), 3);
        DUE.is("nobody", game.count(3), -4);
        DUE.is("neither", game.count(4), 2);
        game.undo();
        DUE.so("somebody again", game.count(3) >= 0 && game.count(4) == 1 && game.count(2) == 2);
    }

    private static void breathsInTheTank() {
        DUE.sentence("5: breaths in the tank;");
        DUE.is("at first", new TankDivers().count(5), 25);
        TankDivers game = Table.at(2, 487, "dtdtdtundtdtdtdndn");
        DUE.so("few", game.count(5) > 0 && game.count(5) < 6);
        game.move(false);
        DUE.is("none", game.count(5), 0);
        game.move(false);
        DUE.is("a refused move uses none", game.count(5), 0);
        game.nothing();
        DUE.is("in the next round", game.count(5), 25);
        game.undo();
        DUE.is("behind undo()", game.count(5), 0);
    }

    private static void treasuresOfTheGame() {
        DUE.sentence("8: the same of the stacks of all divers; 9: the same of all treasures that are divers'; 10:"
                + " treasures of the game;");
        TankDivers game = Table.at(4, 8219, "");
        String turns = "dtdtdtdtunundndnununununun";
        for (int i = 0; i < turns.length() && game.count(2) < 1; i++) {
            Table.act(game, turns.substring(i, i + 1));
            DUE.is("treasures", game.count(10), 16);
            DUE.is("all values", game.count(7) + game.count(8) + game.count(9), 120);
            int held = 0;
            for (int diver = 0; diver < 4; diver++) {
                held += game.diver(diver, 5);
            }
            DUE.is("values of the stacks", game.count(8), held);
        }
        Table.endRound(game);
        DUE.so("something is brought", game.count(9) > 0);
        Table.act(game, "dtdt");
        DUE.so("and there are stacks", game.count(8) > 0);
        DUE.is("treasures", game.count(10), 16);
        DUE.is("all values", game.count(7) + game.count(8) + game.count(9), 120);
    }

    private static void padAndHistory() {
        DUE.sentence("14: the length of the pad; 15: states in the history");
        TankDivers game = new TankDivers();
        for (int i = 0; i <= 6; i++) {
            DUE.is("states", game.count(15), Math.min(i, 4));
            game.nothing();
        }
        for (int i = 0; i <= 62; i++) {
            DUE.is("length", game.count(14), Math.min(i, 60));
            game.append('d');
        }
    }

    private static void greatestScore() {
        DUE.sentence("Returns the diver with the greatest score, of several the lowest.");
        DUE.is("all have 0", Table.at(4, 3, "").leader(), 0);
        leader(Table.at(2, 1609, "dtdtunutdn"), 0, 0, 1);
        leader(Table.at(3, 2097, "dtdtdtunutundn"), 1, 1, 2);
        leader(Table.at(3, 6418, "dtdtdtununutdn"), 0, 0, 2);
        leader(Table.at(4, 5325, "dtdtdtdtunununundn"), 3, 3, 3);
        leader(Table.at(2, 7276, "dtdtunun"), 1, 1, 1);
    }

    private static void leader(TankDivers game, int leader, int one, int other) {
        DUE.is("leader", game.leader(), leader);
        DUE.is("as much as", game.diver(one, 6), game.diver(other, 6));
        for (int diver = 0; diver < game.count(0); diver++) {
            DUE.so("not more", game.diver(diver, 6) <= game.diver(leader, 6));
        }
        DUE.so("more than 0", game.diver(leader, 6) > 0);
    }

    private static void placesOfChances() {
        DUE.sentence("- `place`: 0 to the last space");
        TankDivers game = new TankDivers();
        int[] due = {0, 0, 1, 2, 3, 2, 1, 0, 0, 0, 0, 0, 0, 0, 0, 0, 0};
        for (int place = -2; place <= 19; place++) {
            int want = place < 0 || place > 16 ? -1 : due[place];
            DUE.is("chances(" + place + ", false, 0)", game.chances(place, false, 0), want);
            DUE.is("chances(" + place + ", false, 1)", game.chances(place, false, 1), want);
        }
        for (int place : FAR) {
            DUE.is("chances(" + place + ", false, 0)", game.chances(place, false, 0), -1);
        }
    }

    private static void waysOfChances() {
        DUE.sentence("1: told by the sums that two dice can show, and how often each comes");
        TankDivers game = new TankDivers();
        for (int way = -2; way <= 4; way++) {
            DUE.is("chances(4, false, " + way + ")", game.chances(4, false, way), way < 0 || way > 1 ? -1 : 3);
        }
        for (int way : FAR) {
            DUE.is("chances(4, false, " + way + ")", game.chances(4, false, way), -1);
        }
    }

    private static void allNineThrows() {
        DUE.sentence("Returns of nine throws, how many would lead there (the same for both);");
        for (int x = 0; x < 60; x++) {
            TankDivers game = Table.at(2 + x % 3, x, "");
            for (int i = 0; i < 9 && game.count(2) < 3; i++) {
                boolean back = i % 4 == 3 && game.diver(game.count(3), 1) == 0 && Table.place(game) > 0;
                int all = 0;
                int[] told = new int[17];
                for (int place = 0; place <= game.count(1); place++) {
                    told[place] = game.chances(place, back, 0);
                    DUE.is("the same for both", game.chances(place, back, 1), told[place]);
                    all += told[place];
                }
                DUE.is("all throws", all, 9);
                DUE.so("the move ends where it may end", told[game.move(back) - 10] > 0);
                if (game.take() < 10) {
                    game.nothing();
                }
            }
        }
    }

    private static void movesThatWouldBeRefused() {
        DUE.sentence("NOT_POSSIBLE if the move would be refused.");
        for (int way = 0; way <= 1; way++) {
            DUE.is("back in the ship", new TankDivers().chances(0, true, way), -2);
            DUE.is("on in the ship", new TankDivers().chances(0, false, way), 0);
            DUE.is("a deed is due", Table.at(2, 1, "d").chances(0, false, way), -2);
            DUE.is("back twice", Table.at(2, 4371, "dtdnutdt").chances(0, true, way), -2);
            DUE.so("further up", Table.at(2, 4371, "dtdnutdt").chances(0, false, way) > 0);
            DUE.is("behind the undo of the move", undone(Table.at(2, 1, "d")).chances(2, false, way), 1);
        }
    }

    private static TankDivers undone(TankDivers game) {
        game.undo();
        return game;
    }

    private static void oneToSixMoves() {
        DUE.sentence("- `moves`: 1 to 6");
        for (int moves = -2; moves <= 10; moves++) {
            int told = Table.at(2, 6012, "dtdtdtdtdtdtdtdndtdndn").homeward(moves);
            DUE.is("homeward(" + moves + ")", told == -1 ? -1 : 0, moves < 1 || moves > 6 ? -1 : 0);
        }
        for (int moves : FAR) {
            DUE.is("homeward(" + moves + ")", Table.at(2, 1, "dndn").homeward(moves), -1);
        }
    }

    private static void neverOrAlwaysHome() {
        DUE.sentence("Returns of all throws, nine for each move, how many would have brought the diver home by then;");
        TankDivers six = Table.withSixStacks();
        TankDivers near = Table.at(2, 8552, "dtdnun");
        DUE.is("on 2, the other one on 1", Table.place(near), 2);
        int all = 1;
        for (int moves = 1; moves <= 6; moves++) {
            all *= 9;
            DUE.is("never with six stacks", six.homeward(moves), 0);
            DUE.is("always from 2", near.homeward(moves), all);
        }
    }

    /** Of all throws of so many moves, how many lead so many steps up in all, each of them less the stacks. */
    private static int leading(int moves, int stacks, int steps) {
        if (steps <= 0) {
            return (int) Math.pow(9, moves);
        }
        int leading = 0;
        for (int throwing = 0; throwing < 9 && moves > 0; throwing++) {
            int dice = 2 + throwing / 3 + throwing % 3;
            leading += leading(moves - 1, stacks, steps - Math.max(0, dice - stacks));
        }
        return leading;
    }

    /** The diver on turn would go up, over those who are on the way. */
    private static void homeward(TankDivers game, int place, int stacks) {
        DUE.is("place", Table.place(game), place);
        DUE.is("stacks", Table.held(game), stacks);
        int steps = place;
        for (int other = 0; other < game.count(0); other++) {
            steps -= game.diver(other, 0) > 0 && game.diver(other, 0) < place ? 1 : 0;
        }
        for (int moves = 1; moves <= 6; moves++) {
            DUE.is("homeward(" + moves + ") from " + place, game.homeward(moves), leading(moves, stacks, steps));
        }
    }

    private static void homeFromTheLastSpaces() {
        DUE.sentence("how many would have brought the diver home by then;");
        TankDivers game = new TankDivers();
        for (int i = 0; i < 60 && (i < 40 || Table.place(game) != 16); i++) {
            Table.act(game, "dn");
        }
        homeward(game, 16, 0);
        Table.act(game, "dn");
        homeward(game, 15, 0);
        homeward(Table.at(2, 2345, "dndnundtdt"), 16, 2);
        homeward(Table.at(2, 7531, "dtdtundtdt"), 16, 3);
        homeward(Table.at(2, 4397, "dtdtundtdtdt"), 16, 4);
        homeward(Table.at(2, 9155, "dtdtundtdt"), 15, 3);
    }

    private static void tankDoesNotMatter() {
        DUE.sentence("(the tank does not matter, and nothing is taken or laid down), turning back at the first one, if"
                + " the diver goes down yet.");
        TankDivers game = Table.at(2, 6012, "dtdtdtdtdtdtdtdndtdndn");
        DUE.is("one breath", game.count(5), 1);
        DUE.is("goes down yet", game.diver(game.count(3), 1), 0);
        homeward(game, 9, 3);
        DUE.so("home by six moves", game.homeward(6) > 0);
        DUE.is("not by one", game.homeward(1), 0);
    }

    private static void othersDoNothing() {
        DUE.sentence("if others did nothing");
        TankDivers all = Table.at(3, 2676, "dndndnun");
        DUE.is("on 3, over 2 and 1", all.homeward(1), 9);
        for (int x = 0; x < 30; x++) {
            TankDivers game = Table.at(4, x, "dt" + "dn".repeat(8 + x % 4));
            homeward(game, Table.place(game), Table.held(game));
        }
    }

    private static void fromTheShipOrADeed() {
        DUE.sentence("NOT_POSSIBLE if it is not time for a move, or the diver is in the ship.");
        DUE.is("in the ship", new TankDivers().homeward(1), -2);
        DUE.is("a deed is due", Table.at(2, 1, "d").homeward(1), -2);
        DUE.is("the next one is in the ship", Table.at(2, 1, "dn").homeward(6), -2);
        DUE.so("both are out", Table.at(2, 1, "dndn").homeward(1) >= 0);
        DUE.is("home, a deed is due", Table.at(2, 9610, "dndnu").homeward(1), -2);
        DUE.so("one who goes up", Table.at(2, 4371, "dtdnutdt").homeward(1) > 0);
    }

    private static void moreThanTheTank() {
        DUE.sentence("Returns the sum of the stacks of these divers.");
        TankDivers game = Table.at(2, 2679, "dndtundtdtdtdndtdndn");
        DUE.is("one breath", game.count(5), 1);
        DUE.so("more would be used", game.used() > 1);
        DUE.is("stacks", game.used(), game.diver(0, 3) + game.diver(1, 3));
        DUE.is("none", new TankDivers().used(), 0);
        DUE.is("of the first one alone", Table.at(4, 1, "dt").used(), 1);
        DUE.is("of the last one alone", Table.at(4, 8, "dndndndt").used(), 1);
    }

    private static void usedByThoseWhoAreOut() {
        DUE.sentence("Tells how many breaths would be used by one move of each diver who is not home.");
        TankDivers game = Table.at(4, 8219, "dtdtdtdtunun");
        int out = 0;
        int all = 0;
        for (int diver = 0; diver < 4; diver++) {
            all += game.diver(diver, 3);
            out += game.diver(diver, 2) == 0 ? game.diver(diver, 3) : 0;
        }
        DUE.is("four stacks", all, 4);
        DUE.is("two are out", out, 2);
        DUE.is("used()", game.used(), 2);
    }

    private static void nothingOrAllBrought() {
        DUE.sentence("Returns count(9), as a double, divided by the values of all treasures of the game; 0.0 if these"
                + " are 0 together.");
        DUE.real("nothing", new TankDivers().brought(), 0.0);
        DUE.real("nothing, though there are stacks", Table.at(2, 1, "dtdt").brought(), 0.0);
        DUE.real("all", Table.at(4, 4940, ALL_BROUGHT).brought(), 1.0);
        TankDivers some = Table.at(2, 7276, "dtdtunun");
        DUE.so("some", some.count(9) > 0);
        DUE.real("a part", some.brought(), some.count(9) / 120.0);
        Table.act(some, "dtdt");
        DUE.real("with stacks of another round", some.brought(), some.count(9) / 120.0);
    }

    private static void looksChangeNothing() {
        DUE.sentence("Ahead of the calls `diver`, `stack`, `space`, `count`, `leader` the interface says: ---- looks;"
                + " nothing is changed.");
        new Twins(DUE).same("all looks", () -> {
            TankDivers game = Table.at(2, 6012, "dtdtdtdtdtdtdtdndtdndn");
            game.save();
            Table.write(game, "un");
            for (int what = 0; what <= 15; what++) {
                game.count(what);
                game.diver(0, what);
                game.space(what, 2);
                game.stack(1, 0, what);
                game.chances(what, true, 0);
                game.chances(what, false, 1);
                game.homeward(what);
            }
            game.leader();
            game.used();
            game.brought();
            game.fault();
            game.why(0);
            return game;
        }, () -> {
            TankDivers game = Table.at(2, 6012, "dtdtdtdtdtdtdtdndtdndn");
            game.save();
            Table.write(game, "un");
            return game;
        });
    }
}
