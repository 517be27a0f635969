import java.util.ArrayList;
import java.util.List;

/** Terms, 'The end of a round': each sentence that names an edge, one test for each. */
final class RoundEdgesTest {
    private static final Due DUE = new Due();

    /** Games that have come to the last deed of a round; with the index n, n treasures will sink. */
    private static final String[] SINKING = {"dtdnunu", "dtdtdtdtdtdtundnundtundndndl0dnd",
        "dtdtdtdtunundtunutdtdndl2dndl1d", "dtdtdtundtdtdnundndl3d", "dtdtdtunundtdtdtdtdnul2d",
        "dtdndtdtununundtdtutdndndtd", "dtdtdtundtdtdndtdtd", "dtdtdtdtundtdtdtdtdtundl2d",
        "dtdtdtdtunundtdtutdtdtdtdndnd"};
    private static final int[] DIVERS = {2, 3, 4, 2, 3, 4, 2, 3, 4};
    private static final int[] LOTS = {6061, 2550, 7689, 501, 6888, 5121, 2254, 2049, 1361};
    private static final int[][] SIZES = {{}, {1}, {2}, {3}, {3, 1}, {3, 2}, {3, 3}, {3, 3, 1}, {3, 3, 2}};

    /** The third round of 4 divers with the lot 8985 begins with a path of one space. */
    private static final String ONE_SPACE_LEFT =
            "dtdtdndtutundnutdndtdnutdndndtdndtdndndtdtdtdtdtdtundnutundtdndndndnundndndndn";

    private RoundEdgesTest() {
    }

    public static void main(String[] args) {
        newStacksOfThree();
        fromTheDeepestOn();
        orderInsideTheStacks();
        stacksOfStacks();
        homeAndDrowned();
        noneDrowned();
        firstAndLastSpaceBlank();
        noBlankSpace();
        deepestIsOnTurn();
        allInTheShip();
        drownedInTheShip();
        drownedOutAndInTheShip();
        sixStacksSink();
        gameIsOver();
        scoresOfAllRounds();
        DUE.end();
    }

    private static TankDivers sinking(int treasures) {
        return Table.at(DIVERS[treasures], LOTS[treasures], SINKING[treasures]);
    }

    private static void newStacksOfThree() {
        DUE.sentence("come one behind the other (those of all these divers in one row) into new stacks of three (the"
                + " last one may have fewer).");
        for (int treasures = 0; treasures < SINKING.length; treasures++) {
            TankDivers game = sinking(treasures);
            DUE.is("treasures that will sink", sunk(game).size(), treasures);
            int before = game.count(1) - game.count(6);
            int round = game.count(2);
            endAsDue("with " + treasures, game);
            DUE.is("the round has ended", game.count(2), round + 1);
            DUE.is("spaces", game.count(1), before + SIZES[treasures].length);
            for (int i = 0; i < SIZES[treasures].length; i++) {
                DUE.is("size of a new stack", game.space(before + 1 + i, 0), SIZES[treasures][i]);
            }
            DUE.is("behind the last one", game.space(game.count(1) + 1, 0), -1);
        }
    }

    private static void fromTheDeepestOn() {
        DUE.sentence("from the one who is deepest on (of those in the ship the lowest number first)");
        TankDivers game = Table.at(3, 3120, "dtdtdtdtdtdtdtdtdtdtdndtdnd");
        DUE.so("2 is deeper than 0, and 0 than 1", game.diver(2, 0) > game.diver(0, 0)
                && game.diver(0, 0) > game.diver(1, 0));
        List<Integer> row = new ArrayList<>();
        for (int diver : new int[] {2, 0, 1}) {
            DUE.so(diver + " has stacks", game.diver(diver, 3) > 1);
            for (int stack = 0; stack < game.diver(diver, 3); stack++) {
                row.add(game.stack(diver, stack, 1));
            }
        }
        int first = game.count(1) - game.count(6) + 1;
        game.nothing();
        for (int i = 0; i < row.size(); i++) {
            int space = first + i / 3;
            if (i % 3 == 0) {
                DUE.is("values of the space " + space, game.space(space, 1),
                        row.subList(i, Math.min(i + 3, row.size())).stream().mapToInt(v -> v).sum());
            }
        }
        DUE.is("the last one of the path", game.count(1), first + (row.size() - 1) / 3);
    }

    /** What sank is taken up again, so that the order in a stack can be seen. */
    private static void orderInsideTheStacks() {
        DUE.sentence("each diver's treasures, stack by stack in the order in which they were taken, each from the"
                + " bottom to the top,");
        int looked = 0;
        for (int treasures = 2; treasures < SINKING.length; treasures++) {
            TankDivers game = sinking(treasures);
            List<Integer> row = sunk(game);
            int first = game.count(1) - game.count(6) + 1;
            game.nothing();
            for (int i = 0; i < 40 && game.count(2) == 1; i++) {
                game.move(false);
                int diver = game.count(3);
                int space = game.diver(diver, 0);
                if (space >= first && game.space(space, 0) > 0) {
                    game.take();
                    looked += sameStack(game, diver, row, (space - first) * 3);
                } else {
                    game.nothing();
                }
            }
        }
        DUE.so("stacks of two and three were taken", looked > 5);
    }

    private static int sameStack(TankDivers game, int diver, List<Integer> row, int from) {
        if (game.count(2) != 1) {
            return 0;
        }
        int stack = game.diver(diver, 3) - 1;
        int size = Math.min(3, row.size() - from);
        DUE.is("size", game.stack(diver, stack, 0), size);
        for (int i = 0; i < 3; i++) {
            DUE.is("treasure " + (from + i), game.stack(diver, stack, i + 1), i < size ? row.get(from + i) : -4);
        }
        return size > 1 ? 1 : 0;
    }

    /** In later rounds stacks of three sink, and come into new ones across their borders. */
    private static void stacksOfStacks() {
        DUE.sentence("stack by stack in the order in which they were taken, each from the bottom to the top,");
        int across = 0;
        for (int x = 0; x < 40; x++) {
            TankDivers game = Table.at(2 + x % 3, x, "");
            for (int i = 0; i < 90 && game.count(2) < 3; i++) {
                game.move(false);
                if (game.count(5) == 0) {
                    across += game.count(8) > 0 && game.count(2) > 0 && hasMixedStacks(game) ? 1 : 0;
                    endAsDue("lot " + x, game);
                } else if (i % 5 == 4 || game.take() < 10) {
                    game.nothing();
                }
            }
        }
        DUE.so("stacks of three and of fewer sank together", across > 5);
    }

    private static boolean hasMixedStacks(TankDivers game) {
        boolean three = false;
        boolean fewer = false;
        for (int diver = 0; diver < game.count(0); diver++) {
            for (int stack = 0; stack < game.diver(diver, 3); stack++) {
                three |= game.stack(diver, stack, 0) == 3;
                fewer |= game.stack(diver, stack, 0) < 3;
            }
        }
        return three && fewer;
    }

    private static void homeAndDrowned() {
        DUE.sentence("All stacks of divers who are home are brought: their treasures are theirs for good.");
        TankDivers game = Table.at(3, 90, "dtdtdtututdtdndndtdtdndtd");
        int[] values = {game.diver(0, 5), game.diver(1, 5)};
        DUE.is("0 and 1 are home, 2 is not", game.diver(0, 2) * 100 + game.diver(1, 2) * 10 + game.diver(2, 2), 110);
        DUE.so("all have two stacks and more", game.diver(0, 3) > 1 && game.diver(1, 3) > 1 && game.diver(2, 3) > 1);
        DUE.is("nothing is brought before", game.count(9), 0);
        endAsDue("home and drowned", game);
        DUE.is("score of 0", game.diver(0, 6), values[0]);
        DUE.is("score of 1", game.diver(1, 6), values[1]);
        DUE.is("score of 2", game.diver(2, 6), 0);
        DUE.is("who drowned", game.diver(0, 8) * 100 + game.diver(1, 8) * 10 + game.diver(2, 8), 1);
        Table.endRound(game);
        DUE.so("for good", game.diver(0, 6) >= values[0] && game.diver(1, 6) >= values[1]);
    }

    private static void noneDrowned() {
        DUE.sentence("Then the divers who are not home lose their stacks:");
        TankDivers game = Table.at(3, 379, "dtdtdtununutd");
        int brought = game.count(8);
        DUE.so("all are home with stacks", game.diver(0, 3) > 0 && game.diver(1, 3) > 0 && game.diver(2, 3) > 0);
        endAsDue("all are home", game);
        DUE.is("none is lost", game.count(9), brought);
        DUE.is("nobody drowned", game.diver(0, 8) + game.diver(1, 8) + game.diver(2, 8), 0);
    }

    private static void firstAndLastSpaceBlank() {
        DUE.sentence("Blank spaces go out of the path, the spaces behind them move up; then the new stacks become"
                + " further spaces at its end.");
        TankDivers game = Table.at(3, 6884, "dndndndnunundtundndtdtd");
        DUE.is("the first space is blank", game.space(1, 0), 0);
        DUE.is("the last space is blank", game.space(16, 0), 0);
        int blank = game.count(6);
        int second = game.space(2, 1);
        int sunk = sunk(game).size();
        endAsDue("first and last", game);
        DUE.is("the second one is the first then", game.space(1, 1), second);
        DUE.is("spaces", game.count(1), 16 - blank + (sunk + 2) / 3);
        DUE.is("no blank space", game.count(6), 0);
    }

    private static void noBlankSpace() {
        DUE.sentence("Blank spaces go out of the path,");
        TankDivers game = Table.at(4, 466, "dndndndnunununu");
        DUE.is("no blank space", game.count(6), 0);
        endAsDue("none", game);
        DUE.is("spaces", game.count(1), 16);
        DUE.is("the last one", game.space(16, 1), Table.valueAt(466, 16));
    }

    private static void deepestIsOnTurn() {
        DUE.sentence("Otherwise the next round begins; on turn is the diver who was deepest when the round ended");
        TankDivers last = Table.at(4, 9915, "dtdtdtdtundtdtdtdtdtdtdndtdtdnd");
        endAsDue("the last one", last);
        DUE.is("the last one is on turn", last.count(3), 3);
        TankDivers first = Table.at(2, 1671, "dtdtdtundtdtutdndtd");
        DUE.is("1 is home, 0 is not", first.diver(0, 2) * 10 + first.diver(1, 2), 1);
        endAsDue("the first one", first);
        DUE.is("the first one is on turn", first.count(3), 0);
        TankDivers other = Table.at(3, 3120, "dtdtdtdtdtdtdtdtdtdtdndtdnd");
        other.nothing();
        DUE.is("not the next one", other.count(3), 2);
    }

    private static void allInTheShip() {
        DUE.sentence("(of several in the ship, home or not, the lowest number)");
        TankDivers game = Table.at(4, 466, "dndndndnunununu");
        DUE.is("3 came home last", game.count(3), 3);
        game.nothing();
        DUE.is("on turn", game.count(3), 0);
        TankDivers two = Table.at(2, 6061, "dtdnunu");
        DUE.is("on turn before", two.count(3), 1);
        two.nothing();
        DUE.is("on turn", two.count(3), 0);
    }

    /** The diver 0 stays on the only space till one breath is left; the others can't leave the ship. */
    private static TankDivers othersInTheShip() {
        TankDivers game = Table.at(4, 8985, ONE_SPACE_LEFT);
        DUE.is("spaces", game.count(1), 1);
        DUE.is("0 is on turn", game.count(3), 0);
        Table.act(game, "dt");
        for (int i = 0; i < 100 && (game.count(5) > 1 || game.count(3) != 0); i++) {
            DUE.is("the place", game.move(false), game.count(3) == 0 ? 11 : 10);
            game.nothing();
        }
        DUE.is("one breath", game.count(5), 1);
        return game;
    }

    private static void drownedInTheShip() {
        DUE.sentence("(of those in the ship the lowest number first)");
        TankDivers game = othersInTheShip();
        DUE.is("the last breath brings 0 home", game.move(true), 10);
        int[] drowned = new int[4];
        for (int diver = 0; diver < 4; diver++) {
            DUE.is("all are in the ship", game.diver(diver, 0), 0);
            DUE.is(diver + " is home", game.diver(diver, 2), diver == 0 ? 1 : 0);
            drowned[diver] = game.diver(diver, 8) + (diver == 0 ? 0 : 1);
        }
        DUE.is("no breath", game.count(5), 0);
        DUE.is("the round has not ended", game.count(2), 2);
        endAsDue("in the ship", game);
        for (int diver = 0; diver < 4; diver++) {
            DUE.is(diver + " was not home in so many rounds", game.diver(diver, 8), drowned[diver]);
        }
        DUE.is("no space is left", game.count(1), 0);
        DUE.real("all is brought", game.brought(), 1.0);
        DUE.is("over", game.count(4), 2);
    }

    private static void drownedOutAndInTheShip() {
        DUE.sentence("Then the divers who are not home lose their stacks: from the one who is deepest on");
        TankDivers game = othersInTheShip();
        int values = game.diver(0, 5);
        DUE.is("0 stays", game.move(false), 11);
        endAsDue("out", game);
        DUE.is("the stack is the only space again", game.count(1), 1);
        DUE.is("its values", game.space(1, 1), values);
        DUE.is("all others' treasures", game.count(9), 120 - values);
    }

    /** All six of 0 sink, and nothing of 1, who has none. */
    private static void sixStacksSink() {
        DUE.sentence("Then the divers who are not home lose their stacks:");
        TankDivers game = Table.withSixStacks();
        for (int i = 0; i < 20 && game.count(5) > 0; i++) {
            if (game.count(4) == 1) {
                game.nothing();
            }
            game.move(false);
        }
        DUE.is("stacks of 0 and 1", game.diver(0, 3) * 10 + game.diver(1, 3), 60);
        endAsDue("six stacks", game);
        DUE.is("six of sixteen spaces are two then", game.count(1), 12);
    }

    private static void gameIsOver() {
        DUE.sentence("If 3 rounds have ended, the game is over (tank and divers are as at the beginning of a round"
                + " then).");
        TankDivers game = Table.at(3, 90, "dtdtdtututdtdndndtdtdndtdn");
        Table.endRound(game);
        DUE.is("behind two rounds it is not over", game.count(4), 0);
        DUE.is("round", game.count(2), 2);
        DUE.so("somebody is on turn", game.count(3) >= 0);
        for (int i = 0; i < 200 && game.count(2) == 2; i++) {
            game.move(false);
            if (game.count(5) == 0) {
                DUE.so("treasures will sink", sunk(game).size() > 0);
                endAsDue("the third round", game);
            } else if (game.take() < 10) {
                game.nothing();
            }
        }
        DUE.is("over", game.count(4), 2);
        DUE.is("round", game.count(2), 3);
        DUE.is("nobody is on turn", game.count(3), -4);
        DUE.is("breaths", game.count(5), 25);
        DUE.is("used()", game.used(), 0);
        for (int diver = 0; diver < 3; diver++) {
            for (int what = 0; what <= 5; what++) {
                DUE.is("diver(" + diver + ", " + what + ")", game.diver(diver, what), 0);
            }
            DUE.is("drowned", game.diver(diver, 8) > 0 ? 1 : 0, 1);
        }
    }

    private static void scoresOfAllRounds() {
        DUE.sentence("The score of a diver is the sum of the values of all treasures that are the diver's.");
        int more = 0;
        for (int x = 0; x < 60; x++) {
            TankDivers game = Table.at(2 + x % 3, x, "");
            for (int i = 0; i < 90 && game.count(2) < 3; i++) {
                int diver = game.count(3);
                int had = game.diver(diver, 6);
                game.move(game.diver(diver, 3) > 1 && game.diver(diver, 1) == 0);
                boolean last = game.count(5) == 0 || homes(game) == game.count(0);
                if (last) {
                    more += had > 0 && game.diver(diver, 2) == 1 && game.diver(diver, 5) > 0 ? 1 : 0;
                    endAsDue("lot " + x, game);
                } else if (game.diver(diver, 3) > 1 || game.take() < 10) {
                    game.nothing();
                }
            }
        }
        DUE.so("divers have brought stacks in several rounds", more > 0);
    }

    private static int homes(TankDivers game) {
        int homes = 0;
        for (int diver = 0; diver < game.count(0); diver++) {
            homes += game.diver(diver, 2);
        }
        return homes;
    }

    /** The treasures that will sink, in their order: places are told from the deepest on. */
    private static List<Integer> sunk(TankDivers game) {
        List<Integer> row = new ArrayList<>();
        for (int place = game.count(1); place >= 0; place--) {
            for (int diver = 0; diver < game.count(0); diver++) {
                if (game.diver(diver, 0) == place && game.diver(diver, 2) == 0) {
                    for (int stack = 0; stack < game.diver(diver, 3); stack++) {
                        for (int i = 1; i <= game.stack(diver, stack, 0); i++) {
                            row.add(game.stack(diver, stack, i));
                        }
                    }
                }
            }
        }
        return row;
    }

    /** Does the last deed of a round, by doing nothing, and holds what is then against what was before. */
    private static void endAsDue(String when, TankDivers game) {
        List<String> path = new ArrayList<>();
        for (int space = 1; space <= game.count(1); space++) {
            if (game.space(space, 0) > 0) {
                path.add(game.space(space, 0) + " of " + game.space(space, 1));
            }
        }
        List<Integer> row = sunk(game);
        for (int i = 0; i < row.size(); i += 3) {
            List<Integer> stack = row.subList(i, Math.min(i + 3, row.size()));
            path.add(stack.size() + " of " + stack.stream().mapToInt(v -> v).sum());
        }
        List<String> divers = new ArrayList<>();
        int deepest = 0;
        for (int diver = 0; diver < game.count(0); diver++) {
            boolean home = game.diver(diver, 2) == 1;
            divers.add((game.diver(diver, 6) + (home ? game.diver(diver, 5) : 0)) + " by "
                    + (game.diver(diver, 7) + (home ? game.diver(diver, 4) : 0)) + ", drowned "
                    + (game.diver(diver, 8) + (home ? 0 : 1)));
            deepest = game.diver(diver, 0) > game.diver(deepest, 0) ? diver : deepest;
        }
        int round = game.count(2);
        DUE.is(when + ": nothing", game.nothing(), 10);
        DUE.is(when + ": round", game.count(2), round + 1);
        DUE.same(when + ": the path", pathOf(game).toString(), path.toString());
        DUE.same(when + ": the divers", diversOf(game).toString(), divers.toString());
        DUE.is(when + ": on turn", game.count(3), round == 2 ? -4 : deepest);
        DUE.is(when + ": breaths", game.count(5), 25);
        DUE.is(when + ": treasures", game.count(10), 16);
    }

    private static List<String> pathOf(TankDivers game) {
        List<String> path = new ArrayList<>();
        for (int space = 1; space <= game.count(1); space++) {
            path.add(game.space(space, 0) + " of " + game.space(space, 1));
        }
        return path;
    }

    private static List<String> diversOf(TankDivers game) {
        List<String> divers = new ArrayList<>();
        for (int diver = 0; diver < game.count(0); diver++) {
            divers.add(game.diver(diver, 6) + " by " + game.diver(diver, 7) + ", drowned " + game.diver(diver, 8));
        }
        return divers;
    }
}
