/** Terms, 'The end of a round': what is brought, what sinks, how the path closes up, the end of the game. */
final class RoundEndTest {
    private static final Due DUE = new Due();

    /** With 3 divers and the lot 5: the diver 0 comes home with a 1, the two others drown. */
    private static final String FIRST_ROUND = "dtdtdtundtdtdndtdtdndtdtdndn";

    private RoundEndTest() {
    }

    public static void main(String[] args) {
        firstRound();
        secondRound();
        thirdRound();
        nothingInAGameThatIsOver();
        answerOfTheLastDeed();
        allHome();
        emptyPath();
        onlySpaceIsTaken();
        DUE.end();
    }

    private static TankDivers behindFirstRound() {
        TankDivers game = new TankDivers();
        game.begin(3, 5);
        DUE.is("first round", Table.play(game, FIRST_ROUND), 28);
        return game;
    }

    private static void path(String when, TankDivers game, int[] sizes, int[] values) {
        DUE.is(when + ": spaces", game.count(1), sizes.length);
        for (int i = 0; i < sizes.length; i++) {
            DUE.is(when + ": size of " + (i + 1), game.space(i + 1, 0), sizes[i]);
            DUE.is(when + ": values of " + (i + 1), game.space(i + 1, 1), values[i]);
        }
    }

    private static void likeAtTheBeginning(String when, TankDivers game) {
        DUE.is(when + ": tank", game.count(5), 25);
        DUE.is(when + ": values of stacks", game.count(8), 0);
        DUE.is(when + ": blank spaces", game.count(6), 0);
        DUE.is(when + ": treasures", game.count(10), 16);
        DUE.is(when + ": all values", game.count(7) + game.count(8) + game.count(9), 120);
        DUE.is(when + ": used()", game.used(), 0);
        for (int diver = 0; diver < game.count(0); diver++) {
            for (int what = 0; what <= 5; what++) {
                DUE.is(when + ": diver(" + diver + ", " + what + ")", game.diver(diver, what), 0);
            }
            DUE.is(when + ": stack(" + diver + ", 0, 0)", game.stack(diver, 0, 0), -4);
        }
    }

    /** The diver 1 was on 16 with 4, 11, 15, 13, the diver 2 on 15 with 6, 8, 12, 14. */
    private static void firstRound() {
        TankDivers game = behindFirstRound();
        likeAtTheBeginning("first round", game);
        path("first round", game, new int[] {1, 1, 1, 1, 1, 1, 1, 3, 3, 2},
                new int[] {0, 3, 2, 7, 5, 10, 9, 30, 27, 26});
        DUE.is("round", game.count(2), 1);
        DUE.is("the deepest is on turn", game.count(3), 1);
        DUE.is("time for a move", game.count(4), 0);
        DUE.is("score of 0", game.diver(0, 6), 1);
        DUE.is("treasures of 0", game.diver(0, 7), 1);
        DUE.is("0 did not drown", game.diver(0, 8), 0);
        DUE.is("1 drowned", game.diver(1, 8), 1);
        DUE.is("2 drowned", game.diver(2, 8), 1);
        DUE.is("score of 1", game.diver(1, 6), 0);
        DUE.is("brought", game.count(9), 1);
        DUE.real("brought()", game.brought(), 1 / 120.0);
        DUE.is("dice of the latest move stay", game.count(11), 4);
    }

    /** The divers end on 9, 8 and 10, with stacks of three, one and two treasures. */
    private static TankDivers behindSecondRound() {
        TankDivers game = behindFirstRound();
        DUE.is("second round", Table.play(game, "dtdndtdtdtdtdndn"), 16);
        int[][] stacks = {{0, 0, 3, 4, 11, 15}, {0, 1, 3, 13, 6, 8}, {1, 0, 1, 7, -4, -4},
            {1, 1, 1, 9, -4, -4}, {2, 0, 2, 12, 14, -4}};
        for (int[] stack : stacks) {
            for (int what = 0; what <= 3; what++) {
                DUE.is("stack(" + stack[0] + ", " + stack[1] + ", " + what + ")",
                        game.stack(stack[0], stack[1], what), stack[2 + what]);
            }
        }
        DUE.is("treasures of 0", game.diver(0, 4), 6);
        DUE.is("values of 0", game.diver(0, 5), 57);
        DUE.is("stacks of 0", game.diver(0, 3), 2);
        DUE.is("used()", game.used(), 5);
        for (int i = 0; i < 60 && game.count(2) == 1; i++) {
            int before = game.count(5);
            int stacks0 = game.diver(game.count(3), 3);
            game.move(false);
            DUE.is("at most all breaths", game.count(5), Math.max(0, before - stacks0));
            game.nothing();
        }
        return game;
    }

    private static void secondRound() {
        TankDivers game = behindSecondRound();
        likeAtTheBeginning("second round", game);
        path("second round", game, new int[] {1, 1, 1, 1, 1, 3, 3, 3, 1},
                new int[] {0, 3, 2, 5, 10, 30, 39, 21, 9});
        DUE.is("round", game.count(2), 2);
        DUE.is("the deepest is on turn", game.count(3), 2);
        DUE.is("0 drowned once", game.diver(0, 8), 1);
        DUE.is("1 drowned twice", game.diver(1, 8), 2);
        DUE.is("0 keeps what was brought", game.diver(0, 6), 1);
    }

    private static TankDivers behindThirdRound() {
        TankDivers game = behindSecondRound();
        for (int i = 0; i < 200 && game.count(2) == 2; i++) {
            int diver = game.count(3);
            game.move(diver == 0 && game.diver(0, 3) > 0 && game.diver(0, 1) == 0);
            if (game.diver(diver, 3) == 2 || game.take() < 10) {
                game.nothing();
            }
        }
        return game;
    }

    private static void thirdRound() {
        TankDivers game = behindThirdRound();
        likeAtTheBeginning("third round", game);
        DUE.is("round", game.count(2), 3);
        DUE.is("nobody is on turn", game.count(3), -4);
        DUE.is("neither move nor deed", game.count(4), 2);
        DUE.is("save()", game.save(), 3);
        DUE.so("dice of the latest move stay", game.count(11) >= 2);
        game.begin(3, 5);
        DUE.is("rounds in which 1 drowned, in this game", game.diver(1, 8), 0);
        DUE.is("score in this game", game.diver(0, 6), 0);
        DUE.is("round of this game", game.count(2), 0);
        DUE.is("restore()", game.restore(), 3);
    }

    private static void nothingInAGameThatIsOver() {
        TankDivers game = behindThirdRound();
        int refused = game.count(12);
        DUE.is("move(false)", game.move(false), 1);
        DUE.is("move(true)", game.move(true), 1);
        DUE.is("take()", game.take(), 1);
        DUE.is("lay(0)", game.lay(0), 1);
        DUE.is("lay(-1)", game.lay(-1), 1);
        DUE.is("nothing()", game.nothing(), 1);
        DUE.is("refused", game.count(12), refused + 6);
        DUE.is("chances(0, false, 0)", game.chances(0, false, 0), -2);
        DUE.is("chances(0, false, 2)", game.chances(0, false, 2), -1);
        DUE.is("homeward(1)", game.homeward(1), -2);
        DUE.is("homeward(0)", game.homeward(0), -1);
        DUE.is("play()", Table.play(game, "dn"), 0);
        DUE.is("why(0)", game.why(0), 1);
        DUE.is("why(1)", game.why(1), 0);
    }

    /** The deed answers what the diver has behind it, though the round ends then and the stacks are lost. */
    private static void answerOfTheLastDeed() {
        boolean seen = false;
        for (int x = 0; x < 200 && !seen; x++) {
            TankDivers game = new TankDivers();
            game.begin(2, x);
            for (int i = 0; i < 100 && game.count(2) == 0; i++) {
                game.move(false);
                int diver = game.count(3);
                int had = game.diver(diver, 3);
                int answer = game.take();
                if (answer >= 10) {
                    DUE.is("take with the lot " + x, answer, 11 + had);
                    seen |= game.count(2) == 1;
                } else {
                    game.nothing();
                }
            }
        }
        DUE.so("a round ended behind a take", seen);
    }

    private static void allHome() {
        int x = Table.lotFor(4, 2, 6, 6);
        TankDivers game = Table.showing(2, 4, 2, 6, 6);
        game.move(false);
        game.take();
        game.move(false);
        game.take();
        DUE.is("0 is home", game.move(true), 10);
        game.nothing();
        DUE.is("the round is not over", game.count(2), 0);
        DUE.is("0 still has the stack", game.diver(0, 5), Table.valueAt(x, 4));
        DUE.is("1 is home", game.move(true), 10);
        DUE.is("not before the deed", game.count(2), 0);
        DUE.is("take in the ship", game.take(), 5);
        game.nothing();
        DUE.is("the round is over", game.count(2), 1);
        likeAtTheBeginning("all home", game);
        DUE.is("score of 0", game.diver(0, 6), Table.valueAt(x, 4));
        DUE.is("score of 1", game.diver(1, 6), Table.valueAt(x, 2));
        DUE.is("treasures of 1", game.diver(1, 7), 1);
        DUE.is("spaces", game.count(1), 14);
        DUE.is("moved up by one", game.space(2, 1), Table.valueAt(x, 3));
        DUE.is("moved up by two", game.space(3, 1), Table.valueAt(x, 5));
        DUE.is("the last one", game.space(14, 1), Table.valueAt(x, 16));
        DUE.is("no more spaces", game.space(15, 0), -1);
        DUE.is("all in the ship: the lowest number is on turn", game.count(3), 0);
        DUE.is("leader", game.leader(), Table.valueAt(x, 2) > Table.valueAt(x, 4) ? 1 : 0);
    }

    private static TankDivers behindTwoRounds(int x, String turns) {
        TankDivers game = new TankDivers();
        game.begin(4, x);
        int half = turns.length() / 4 * 2;
        DUE.is("first half", Table.play(game, turns.substring(0, half)), half);
        DUE.is("second half", Table.play(game, turns.substring(half)), turns.length() - half);
        DUE.is("round", game.count(2), 2);
        return game;
    }

    /** All treasures have been brought home in two rounds. */
    private static void emptyPath() {
        TankDivers game = behindTwoRounds(4940,
                "dtdndtdtdtdtdndndtdtdndtdnutdtdtdndndtdndtdtdtdtdtdnutdnundndtutdnundndndndndn");
        DUE.is("spaces", game.count(1), 0);
        DUE.is("blank spaces", game.count(6), 0);
        DUE.is("no space", game.space(1, 0), -1);
        DUE.is("values of the path", game.count(7), 0);
        DUE.is("all is brought", game.count(9), 120);
        DUE.real("brought()", game.brought(), 1.0);
        DUE.is("treasures", game.count(10), 16);
        for (int i = 0; i < 4; i++) {
            DUE.is("chances of the ship", game.chances(0, false, 0), 9);
            DUE.is("told the other way", game.chances(0, false, 1), 9);
            DUE.is("no such place", game.chances(1, false, 0), -1);
            DUE.is("stays in the ship", game.move(false), 10);
            DUE.is("is not home", game.diver(game.count(3), 2), 0);
            DUE.is("take in the ship", game.take(), 5);
            game.nothing();
            DUE.is("next on turn", game.count(3), (i + 1) % 4);
        }
        DUE.is("cannot turn back in the ship", game.move(true), 4);
        DUE.is("homeward(6)", game.homeward(6), -2);
        DUE.is("the round goes on", game.count(2), 2);
    }

    private static void onlySpaceIsTaken() {
        TankDivers game = behindTwoRounds(8985,
                "dtdtdndtutundnutdndtdnutdndndtdndtdndndtdtdtdtdtdtundnutundtdndndndnundndndndn");
        DUE.is("spaces", game.count(1), 1);
        int first = game.count(3);
        DUE.is("chances of the space", game.chances(1, false, 0), 9);
        DUE.is("the only space", game.move(false), 11);
        game.nothing();
        int second = game.count(3);
        DUE.is("chances of the space that is taken", game.chances(1, false, 1), 0);
        DUE.is("no space is left", game.move(false), 10);
        DUE.is("not home", game.diver(second, 2), 0);
        game.nothing();
        DUE.is("who is there", game.space(1, 2), first);
        game.move(false);
        game.nothing();
        game.move(false);
        game.nothing();
        DUE.is("around", game.count(3), first);
        DUE.is("up to the others", game.move(true), 10);
        game.nothing();
        DUE.is("the others are in the ship, but not home", game.count(2), 2);
        DUE.is("the second can go down then", game.move(false), 11);
    }
}
