/** Terms, 'The path' to 'A turn': each sentence that names an edge, one test for each. */
final class TurnEdgesTest {
    private static final Due DUE = new Due();

    private TurnEdgesTest() {
    }

    public static void main(String[] args) {
        groupsOfValues();
        sixteenSpaces();
        leastAndGreatestValue();
        valueZeroIsNotBlank();
        oneTreasureForEachSpace();
        lotsOfAGame();
        lotGoesAround();
        dieShowsOneToThree();
        fewestAndMostDivers();
        beginningOfARound();
        noBreathWithoutStacks();
        allBreathsExactly();
        moreStacksThanBreaths();
        oneBreathLeft();
        turningBackIsOfTheRound();
        turningBackBeforeTheDice();
        noStepsOrOne();
        overOneOther();
        overAllOthers();
        upToTheShipOverAll();
        roomForAllInTheShip();
        endOfThePath();
        exactlyHomeAndFurther();
        inTheShipIsNotHome();
        fiveStacksAndSix();
        layOnABlankSpaceAlone();
        numbersBehindALay();
        nothingIsAlwaysADeed();
        onlyNothingInTheShip();
        aroundToTheFirst();
        aroundPastThoseHome();
        onlyOneIsOut();
        tankEmptyEndsBehindTheDeed();
        allHomeEndsBehindTheDeed();
        DUE.end();
    }

    private static void groupsOfValues() {
        DUE.sentence("Divisions are rounded down.");
        int wrong = 0;
        for (int x = 0; x < 10000; x++) {
            TankDivers game = Table.at(2, x, "");
            for (int space = 1; space <= 16; space++) {
                int least = space <= 4 ? 0 : space <= 8 ? 4 : space <= 12 ? 8 : 12;
                int value = game.space(space, 1);
                wrong += value < least || value > least + 3 || value % 4 != Table.lotAfter(x, space) % 4 ? 1 : 0;
            }
        }
        DUE.is("values of a wrong group", wrong, 0);
    }

    private static void sixteenSpaces() {
        DUE.sentence("The path has the spaces 1, 2, 3 and so on, 16 at first.");
        TankDivers game = new TankDivers();
        DUE.is("count(1)", game.count(1), 16);
        DUE.is("the first space", game.space(1, 0), 1);
        DUE.is("the last space", game.space(16, 0), 1);
        DUE.is("the ship is no space", game.space(0, 0), -1);
        DUE.is("behind the last space", game.space(17, 0), -1);
    }

    private static void leastAndGreatestValue() {
        DUE.sentence("A treasure has a value, 0 to 15.");
        for (int x = 0; x < 4; x++) {
            TankDivers game = Table.at(2, x, "");
            int zeros = 0;
            int fifteens = 0;
            for (int space = 1; space <= 16; space++) {
                zeros += game.space(space, 1) == 0 ? 1 : 0;
                fifteens += game.space(space, 1) == 15 ? 1 : 0;
                DUE.so("0 to 15", game.space(space, 1) >= 0 && game.space(space, 1) <= 15);
            }
            DUE.is("one of 0", zeros, 1);
            DUE.is("one of 15", fifteens, 1);
        }
    }

    /** A treasure may have the value 0; its space is not blank, and it is taken and brought like another. */
    private static void valueZeroIsNotBlank() {
        DUE.sentence("A space has a stack of treasures (one to three of them at most, from the bottom to the top),"
                + " or is blank.");
        int x = 0;
        while (Table.valueAt(x, 2) != 0 || Table.place(Table.at(2, x, "d")) != 2) {
            x++;
        }
        TankDivers game = Table.at(2, x, "d");
        DUE.is("one treasure", game.space(2, 0), 1);
        DUE.is("of the value 0", game.space(2, 1), 0);
        DUE.is("no blank space", game.count(6), 0);
        DUE.is("lay", game.lay(0), 6);
        DUE.is("take", game.take(), 11);
        DUE.is("a blank space", game.count(6), 1);
        DUE.is("its size", game.stack(0, 0, 0), 1);
        DUE.is("its value", game.stack(0, 0, 1), 0);
        DUE.is("treasures", game.diver(0, 4), 1);
        DUE.is("values", game.diver(0, 5), 0);
        game.move(false);
        game.nothing();
        game.move(true);
        game.nothing();
        for (int i = 0; i < 20 && game.count(2) == 0; i++) {
            game.move(game.diver(game.count(3), 1) == 0);
            game.nothing();
        }
        DUE.is("score", game.diver(0, 6), 0);
        DUE.is("treasures that are the diver's", game.diver(0, 7), 1);
        DUE.is("spaces", game.count(1), 15);
    }

    private static void oneTreasureForEachSpace() {
        DUE.sentence("At its beginning each space s from 1 to 16 gets one treasure: a lot is drawn for each space,"
                + " from 1 on, and the value is 4 * ((s - 1) / 4) and the remainder of the lot by 4.");
        int[] lots = {0, 1, 4999, 5000, 9998, 9999};
        for (int x : lots) {
            TankDivers game = Table.at(2, x, "");
            for (int space = 1; space <= 16; space++) {
                DUE.is("size of " + space, game.space(space, 0), 1);
                DUE.is("value of " + space, game.space(space, 1), Table.valueAt(x, space));
            }
            DUE.is("sixteen lots were drawn", game.count(13), Table.lotAfter(x, 16));
        }
    }

    private static void lotsOfAGame() {
        DUE.sentence("Returns the sum of the values of all treasures; INVALID_ARGUMENT.");
        DUE.sentence("There is a lot x, 0 to 9999.");
        TankDivers game = Table.at(3, 9999, "dt");
        int lot = game.count(13);
        int[] lots = {Integer.MIN_VALUE, -10000, -1, 10000, 19999, Integer.MAX_VALUE};
        for (int x : lots) {
            DUE.is("begin(2, " + x + ")", game.begin(2, x), -1);
            DUE.is("the lot stays", game.count(13), lot);
        }
        DUE.is("begin(2, 0)", game.begin(2, 0), 120);
        DUE.is("lot", game.count(13), Table.lotAfter(0, 16));
        DUE.is("begin(2, 9999)", game.begin(2, 9999), 120);
        DUE.is("lot", game.count(13), Table.lotAfter(9999, 16));
        for (int i = 0; i < 60; i++) {
            game.move(false);
            game.nothing();
            DUE.so("0 to 9999", game.count(13) >= 0 && game.count(13) <= 9999);
        }
        DUE.is("two lots for each move", game.count(13), Table.lotAfter(9999, 16 + 120));
    }

    private static void lotGoesAround() {
        DUE.sentence("To draw a lot makes it (421 * x + 1663) modulo 10000.");
        int[] lots = {0, 1, 19, 20, 9999};
        for (int x : lots) {
            DUE.is("lot behind " + x, Table.at(2, x, "").count(13), Table.lotAfter(x, 16));
        }
        int toZero = 0;
        while ((421 * toZero + 1663) % 10000 != 0) {
            toZero++;
        }
        DUE.is("a lot of 0 has the remainder 0", Table.at(2, toZero, "").space(1, 1), 0);
        int toLast = 0;
        while ((421 * toLast + 1663) % 10000 != 9999) {
            toLast++;
        }
        DUE.is("a lot of 9999 has the remainder 3", Table.at(2, toLast, "").space(1, 1), 3);
    }

    private static void dieShowsOneToThree() {
        DUE.sentence("A die shows 1 and the remainder of the lot by 3, behind drawing it.");
        for (int first = 0; first < 3; first++) {
            for (int second = 0; second < 3; second++) {
                int x = 0;
                while (Table.lotAfter(x, 17) % 3 != first || Table.lotAfter(x, 18) % 3 != second) {
                    x++;
                }
                TankDivers game = Table.at(2, x, "d");
                DUE.is("dice " + first + " and " + second, game.count(11), 2 + first + second);
                DUE.is("two lots were drawn", game.count(13), Table.lotAfter(x, 18));
            }
        }
        int x = 0;
        while (Table.lotAfter(x, 17) != 0) {
            x++;
        }
        DUE.is("a die shows 1 with the lot 0", Table.at(2, x, "d").count(11), 2 + Table.nextLot(0) % 3);
        while (Table.lotAfter(x, 18) != 9999) {
            x = (x + 1) % 10000;
        }
        DUE.is("a die shows 1 with the lot 9999", Table.at(2, x, "d").count(11), 2 + Table.lotAfter(x, 17) % 3);
    }

    private static void fewestAndMostDivers() {
        DUE.sentence("A game has 2 to 4 divers, numbered from 0, and 3 rounds, numbered from 0.");
        for (int divers = 2; divers <= 4; divers++) {
            TankDivers game = Table.at(divers, 1, "");
            DUE.is("divers", game.count(0), divers);
            DUE.is("the first one", game.diver(0, 0), 0);
            DUE.is("the last one", game.diver(divers - 1, 0), 0);
            DUE.is("behind the last one", game.diver(divers, 0), -1);
            DUE.is("the first round", game.count(2), 0);
            for (int round = 1; round <= 3; round++) {
                Table.endRound(game);
                DUE.is("round " + round, game.count(2), round);
                DUE.is("over behind three rounds", game.count(4), round == 3 ? 2 : 0);
            }
        }
    }

    private static void beginningOfARound() {
        DUE.sentence("At the beginning of a round the tank has 25 breaths, all divers are in the ship, go down,"
                + " have no stacks, and are not home; in the first round the diver 0 is on turn.");
        likeAtTheBeginning(Table.at(4, 9, ""), 0);
        DUE.is("on turn", Table.at(4, 9, "").count(3), 0);
        likeAtTheBeginning(Table.at(2, 1015, "dtdtundtdtdtdndtdtdn"), 1);
        likeAtTheBeginning(Table.at(3, 379, "dtdtdtununutdn"), 1);
    }

    private static void likeAtTheBeginning(TankDivers game, int round) {
        DUE.is("round", game.count(2), round);
        DUE.is("breaths", game.count(5), 25);
        for (int diver = 0; diver < game.count(0); diver++) {
            for (int what = 0; what <= 5; what++) {
                DUE.is("diver(" + diver + ", " + what + ")", game.diver(diver, what), 0);
            }
        }
    }

    private static void noBreathWithoutStacks() {
        DUE.sentence("The move: as many breaths are used as the diver has stacks (at most all that there are).");
        TankDivers game = Table.at(2, 1, "d");
        DUE.is("without stacks", game.count(5), 25);
        game.take();
        game.move(false);
        DUE.is("the other one has none", game.count(5), 25);
        game.nothing();
        game.move(false);
        DUE.is("one stack, one breath", game.count(5), 24);
    }

    private static void allBreathsExactly() {
        DUE.sentence("(at most all that there are)");
        TankDivers game = Table.at(2, 1504, "dtdtundtdtdtdndtdn");
        DUE.so("as many breaths as stacks", game.count(5) > 1 && game.count(5) == Table.held(game));
        DUE.so("move", game.move(false) >= 10);
        DUE.is("none is left", game.count(5), 0);
        game.nothing();
        DUE.is("the round has ended", game.count(2), 1);
    }

    private static void moreStacksThanBreaths() {
        DUE.sentence("(at most all that there are)");
        TankDivers game = Table.at(2, 487, "dtdtdtundtdtdtdndn");
        DUE.so("fewer breaths than stacks", game.count(5) > 0 && game.count(5) < Table.held(game));
        DUE.so("move", game.move(false) >= 10);
        DUE.is("none is left", game.count(5), 0);
        game.nothing();
        DUE.is("the round has ended", game.count(2), 1);
    }

    private static void oneBreathLeft() {
        DUE.sentence("If the tank is empty behind the move");
        TankDivers game = Table.at(2, 7064, "dtdndtundtdtdndtdn");
        DUE.so("one breath more than stacks", Table.held(game) > 1 && game.count(5) == Table.held(game) + 1);
        game.move(false);
        DUE.is("one is left", game.count(5), 1);
        game.nothing();
        DUE.is("the round goes on", game.count(2), 0);
        DUE.is("with this breath", game.count(5), 1);
    }

    private static void turningBackIsOfTheRound() {
        DUE.sentence("A diver who goes down, and is not in the ship, can turn back then: the diver goes up for the"
                + " rest of the round.");
        TankDivers game = Table.showing(2, 6, 6, 2, 0, 2);
        DUE.is("in the ship", game.move(true), 4);
        game.move(false);
        game.nothing();
        game.move(false);
        game.nothing();
        DUE.is("from 6 up by two", game.move(true), 14);
        DUE.is("goes up", game.diver(0, 1), 1);
        game.nothing();
        game.move(false);
        game.nothing();
        DUE.is("who goes up can't", game.move(true), 4);
        DUE.is("goes up on", game.move(false), 12);
        DUE.is("goes up", game.diver(0, 1), 1);
        game.nothing();
        while (game.count(2) == 0) {
            game.move(game.diver(game.count(3), 1) == 0);
            game.nothing();
        }
        DUE.is("goes down in the next round", game.diver(0, 1), 0);
        DUE.so("moves down", game.move(false) > 11);
    }

    /** Breaths are used and the direction changes though no step is made. */
    private static void turningBackBeforeTheDice() {
        DUE.sentence("Two dice are thrown, one behind the other; the diver makes as many steps as both show"
                + " together, less the number of stacks that the diver has (0 at least).");
        TankDivers game = Table.at(2, 1196, "dtdtundtdtdt");
        int place = Table.place(game);
        int breaths = game.count(5);
        int diver = game.count(3);
        DUE.is("2 less 4 are no steps", game.move(game.diver(diver, 1) == 0), 10 + place);
        DUE.is("dice", game.count(11), 2);
        DUE.is("breaths", game.count(5), breaths - 4);
        DUE.is("goes up", game.diver(diver, 1), 1);
        DUE.is("is not home", game.diver(diver, 2), 0);
    }

    private static void noStepsOrOne() {
        DUE.sentence("less the number of stacks that the diver has (0 at least).");
        int[] lots = {1196, 3794, 3132};
        int[] dice = {2, 4, 5};
        for (int i = 0; i < lots.length; i++) {
            TankDivers game = Table.at(2, lots[i], "dtdtundtdtdt");
            int place = Table.place(game);
            int diver = game.count(3);
            DUE.is("stacks", Table.held(game), 4);
            DUE.is("goes up", game.diver(diver, 1), 0);
            DUE.is("the next space is free", game.space(place + 1, 2), -4);
            DUE.is(dice[i] + " less 4", game.move(false), 10 + place + (dice[i] == 5 ? 1 : 0));
            DUE.is("dice", game.count(11), dice[i]);
        }
    }

    private static void overOneOther() {
        DUE.sentence("A step leads to the next space in the direction in which the diver goes, on which no other"
                + " diver is;");
        TankDivers game = Table.showing(2, 3, 2);
        game.move(false);
        game.nothing();
        DUE.is("the last step is before the other one", game.move(false), 12);
        TankDivers onto = Table.showing(2, 3, 3);
        onto.move(false);
        onto.nothing();
        DUE.is("the last step would be onto the other one", onto.move(false), 14);
        TankDivers over = Table.showing(2, 3, 4);
        over.move(false);
        over.nothing();
        DUE.is("the last step is over the other one", over.move(false), 15);
        over.nothing();
        int dice = nextDice(over);
        DUE.is("the own space does not count, the other one's does", over.move(false), 10 + 3 + dice + 1);
    }

    private static int nextDice(TankDivers game) {
        int first = Table.nextLot(game.count(13));
        return 2 + first % 3 + Table.nextLot(first) % 3;
    }

    private static void overAllOthers() {
        DUE.sentence("on which no other diver is;");
        int[] seen = new int[7];
        for (int x = 0; x < 10000; x++) {
            TankDivers game = Table.at(4, x, "dndndn");
            int first = Math.min(game.diver(0, 0), Math.min(game.diver(1, 0), game.diver(2, 0)));
            if (game.diver(0, 0) + game.diver(1, 0) + game.diver(2, 0) == 3 * first + 3) {
                int dice = nextDice(game);
                int due = dice < first ? dice : dice + 3;
                DUE.is("lot " + x + ", " + dice + " over three from " + first, game.move(false), 10 + due);
                seen[dice] += dice >= first ? 1 : 0;
            }
        }
        for (int dice = 2; dice <= 6; dice++) {
            DUE.so("over three with " + dice, seen[dice] > 0);
        }
    }

    private static void upToTheShipOverAll() {
        DUE.sentence("upwards, if there is none, to the ship, where there is room for all;");
        TankDivers game = Table.at(2, 8552, "dtdnun");
        DUE.is("on 2", Table.place(game), 2);
        DUE.is("the other one on 1", game.space(1, 2), 1 - game.count(3));
        DUE.is("to the ship by the first step", game.chances(0, true, 0), 9);
        DUE.is("up", game.move(true), 10);
        TankDivers three = Table.at(3, 2676, "dndndnun");
        DUE.is("on 3", Table.place(three), 3);
        DUE.so("others on 1 and 2", three.space(1, 2) >= 0 && three.space(2, 2) >= 0);
        DUE.is("up", three.move(true), 10);
    }

    private static void roomForAllInTheShip() {
        DUE.sentence("to the ship, where there is room for all;");
        TankDivers game = Table.at(4, 466, "dndndndnunununu");
        for (int diver = 0; diver < 4; diver++) {
            DUE.is("place of " + diver, game.diver(diver, 0), 0);
            DUE.is(diver + " is home", game.diver(diver, 2), 1);
        }
    }

    private static void endOfThePath() {
        DUE.sentence("downwards, if there is none, the diver stays and makes no further step.");
        TankDivers game = Table.at(2, 2971, "dndndndndn");
        DUE.is("on 14", Table.place(game), 14);
        DUE.so("the other one on 16", game.space(16, 2) >= 0);
        DUE.so("more than two steps", nextDice(game) > 2);
        DUE.is("one step, then none", game.move(false), 25);
        TankDivers three = Table.at(3, 7594, "dndndndndndndn");
        DUE.is("on 14", Table.place(three), 14);
        DUE.so("others on 15 and 16", three.space(15, 2) >= 0 && three.space(16, 2) >= 0);
        DUE.is("no step at all", three.move(false), 24);
        DUE.is("though the dice were thrown", three.count(11), nextDice(Table.at(3, 7594, "dndndndndndndn")));
        game.nothing();
        DUE.is("from the last space", game.move(false), 26);
    }

    private static void exactlyHomeAndFurther() {
        DUE.sentence("A diver who comes to the ship by going up is home, and makes no further step.");
        for (int sum = 2; sum <= 6; sum++) {
            TankDivers game = Table.showing(2, 4, 6, sum);
            game.move(false);
            game.nothing();
            game.move(false);
            game.nothing();
            DUE.is("from 4 up by " + sum, game.move(true), sum < 4 ? 14 - sum : 10);
            DUE.is("home", game.diver(0, 2), sum < 4 ? 0 : 1);
        }
    }

    private static void inTheShipIsNotHome() {
        DUE.sentence("A diver who comes to the ship by going up is home");
        TankDivers game = new TankDivers();
        DUE.is("not home before", game.diver(0, 2), 0);
        game.move(false);
        game.nothing();
        DUE.is("the other one is in the ship", game.diver(1, 0), 0);
        DUE.is("but not home", game.diver(1, 2), 0);
    }

    private static void fiveStacksAndSix() {
        DUE.sentence("to take the stack of the space, which is blank then (with more than 5 stacks it is too much);");
        TankDivers game = Table.at(2, 7663, "dtdtundtdtdtdtd");
        int place = Table.place(game);
        DUE.is("five stacks", Table.held(game), 5);
        DUE.is("a stack is there", game.space(place, 0), 1);
        DUE.is("take the sixth", game.take(), 16);
        DUE.is("blank then", game.space(place, 0), 0);
        TankDivers six = Table.at(2, 1574, "dtdtundtdtdtdtdtd");
        DUE.is("six stacks", Table.held(six), 6);
        DUE.so("no seventh", six.take() < 10);
        DUE.is("still six", Table.held(six), 6);
        DUE.is("no seventh stack is told", six.stack(six.count(3), 6, 0), -4);
    }

    private static void layOnABlankSpaceAlone() {
        DUE.sentence("to lay one of the own stacks down, on a blank space; or nothing.");
        TankDivers game = Table.at(2, 5445, "dtdtdtdtu");
        int place = Table.place(game);
        DUE.is("a blank space", game.space(place, 0), 0);
        int value = game.stack(game.count(3), 1, 1);
        DUE.is("lay the second of two", game.lay(1), 11);
        DUE.is("one treasure lies there", game.space(place, 0), 1);
        DUE.is("that one", game.space(place, 1), value);
        TankDivers full = Table.at(2, 703, "dtdtdtdtd");
        DUE.is("a stack is there", full.space(Table.place(full), 0), 1);
        DUE.is("lay", full.lay(1), 7);
    }

    private static void numbersBehindALay() {
        DUE.sentence("- `stack`: its number, from 0 in the order in which they were taken");
        for (int number = 0; number <= 5; number++) {
            TankDivers game = Table.withSixStacks();
            int[] values = new int[6];
            for (int stack = 0; stack < 6; stack++) {
                values[stack] = game.stack(0, stack, 1);
            }
            game.move(false);
            DUE.is("lay(" + number + ")", game.lay(number), 15);
            for (int stack = 0; stack < 5; stack++) {
                int due = values[stack < number ? stack : stack + 1];
                DUE.is("the stack " + stack + " then", game.stack(0, stack, 1), due);
            }
            DUE.is("no sixth one", game.stack(0, 5, 1), -4);
            DUE.is("it lies there", game.space(game.diver(0, 0), 1), values[number]);
        }
    }

    private static void nothingIsAlwaysADeed() {
        DUE.sentence("or nothing.");
        DUE.is("on a blank space", Table.at(2, 5445, "dtdtdtdtu").nothing(), 10);
        DUE.is("on a space with a stack", Table.at(2, 703, "dtdtdtdtd").nothing(), 10);
        DUE.is("with six stacks", Table.at(2, 1574, "dtdtundtdtdtdtdtd").nothing(), 10);
        DUE.is("in the ship", Table.at(2, 9610, "dndnu").nothing(), 10);
    }

    private static void onlyNothingInTheShip() {
        DUE.sentence("A diver who is in the ship can do nothing.");
        TankDivers game = Table.at(2, 4427, "dtdtutdtd");
        DUE.is("two stacks, in the ship", Table.held(game) * 100 + Table.place(game), 200);
        DUE.is("take", game.take(), 5);
        DUE.is("lay(0)", game.lay(0), 5);
        DUE.is("lay(1)", game.lay(1), 5);
        DUE.is("stacks stay", Table.held(game), 2);
        DUE.is("nothing", game.nothing(), 10);
    }

    private static void aroundToTheFirst() {
        DUE.sentence("Behind the deed the next diver is on turn, around, who is not home.");
        for (int divers = 2; divers <= 4; divers++) {
            TankDivers game = Table.at(divers, 77, "");
            for (int turn = 0; turn <= divers; turn++) {
                DUE.is("on turn", game.count(3), turn % divers);
                game.move(false);
                DUE.is("not before the deed", game.count(3), turn % divers);
                game.nothing();
            }
        }
    }

    private static void aroundPastThoseHome() {
        DUE.sentence("around, who is not home.");
        TankDivers game = Table.at(4, 3604, "dndndndnununund");
        DUE.is("0 and 1 are home", game.diver(0, 2) * 10 + game.diver(1, 2), 11);
        DUE.is("3 is on turn", game.count(3), 3);
        game.nothing();
        DUE.is("past 0 and 1", game.count(3), 2);
        TankDivers middle = Table.at(4, 378, "dndndndndnunundnu");
        DUE.is("1 and 2 are home", middle.diver(1, 2) * 10 + middle.diver(2, 2), 11);
        DUE.is("0 is on turn", middle.count(3), 0);
        middle.nothing();
        DUE.is("past 1 and 2", middle.count(3), 3);
    }

    private static void onlyOneIsOut() {
        DUE.sentence("around, who is not home.");
        TankDivers game = Table.at(4, 8, "dndndndnunundnu");
        DUE.is("2 is not home", game.diver(2, 2), 0);
        DUE.is("3 came home", game.diver(3, 2), 1);
        game.nothing();
        DUE.is("on turn", game.count(3), 2);
        game.move(false);
        DUE.is("out yet", game.diver(2, 2), 0);
        game.nothing();
        DUE.is("again", game.count(3), 2);
    }

    private static void tankEmptyEndsBehindTheDeed() {
        DUE.sentence("If the tank is empty behind the move, or all divers are home, the round ends behind the deed.");
        TankDivers lay = Table.at(2, 1015, "dtdtundtdtdtdndtdtd");
        DUE.is("the tank is empty", lay.count(5), 0);
        DUE.is("the round is not over", lay.count(2), 0);
        DUE.is("a refused deed", lay.take(), 6);
        DUE.is("a refused move", lay.move(false), 3);
        DUE.is("does not end it", lay.count(2) * 10 + lay.count(5), 0);
        int left = Table.held(lay) - 1;
        DUE.is("lay", lay.lay(0), 10 + left);
        DUE.is("the round is over", lay.count(2), 1);
        TankDivers take = Table.at(2, 277, "dtdtdtundtdtdtdnund");
        DUE.is("the tank is empty", take.count(5), 0);
        int more = Table.held(take) + 1;
        DUE.is("take", take.take(), 10 + more);
        DUE.is("the round is over", take.count(2), 1);
        TankDivers nothing = Table.at(3, 3242, "dtdtdtutdtundnutdtdndndnd");
        DUE.is("the tank is empty", nothing.count(5), 0);
        DUE.is("the one on turn is home", nothing.diver(nothing.count(3), 2), 1);
        DUE.is("nothing", nothing.nothing(), 10);
        DUE.is("the round is over", nothing.count(2), 1);
    }

    private static void allHomeEndsBehindTheDeed() {
        DUE.sentence("or all divers are home, the round ends behind the deed.");
        TankDivers game = Table.at(4, 466, "dndndndnunununu");
        DUE.is("all are home, the round is not over", game.count(2), 0);
        DUE.is("breaths are left", game.count(5), 25);
        DUE.is("a refused deed", game.take(), 5);
        DUE.is("does not end it", game.count(2), 0);
        DUE.is("nothing", game.nothing(), 10);
        DUE.is("the round is over", game.count(2), 1);
        TankDivers three = Table.at(4, 8, "dndndndnunundnun");
        DUE.is("three of four are home, the round goes on", three.count(2), 0);
    }
}
