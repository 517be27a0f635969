/** What the tests need to bring a game to where they look at it. */
final class Table {
    private Table() {
    }

    static int nextLot(int x) {
        return (421 * x + 1663) % 10000;
    }

    static int lotAfter(int x, int draws) {
        int lot = x;
        for (int i = 0; i < draws; i++) {
            lot = nextLot(lot);
        }
        return lot;
    }

    /** The smallest lot with which both dice of the first moves of a game show these sums; 0 is any sum. */
    static int lotFor(int... sums) {
        for (int x = 0; x < 10000; x++) {
            if (shows(x, sums)) {
                return x;
            }
        }
        throw new IllegalStateException("no lot shows these sums");
    }

    private static boolean shows(int x, int[] sums) {
        int lot = lotAfter(x, 16);
        for (int sum : sums) {
            int first = nextLot(lot);
            lot = nextLot(first);
            if (sum != 0 && 1 + first % 3 + 1 + lot % 3 != sum) {
                return false;
            }
        }
        return true;
    }

    /** The value of the treasure that lies on the space when a game begins with the lot x. */
    static int valueAt(int x, int space) {
        return 4 * ((space - 1) / 4) + lotAfter(x, space) % 4;
    }

    /** A new object whose game has so many divers and whose first moves show these sums. */
    static TankDivers showing(int divers, int... sums) {
        TankDivers game = new TankDivers();
        game.begin(divers, lotFor(sums));
        return game;
    }

    static void write(TankDivers game, String text) {
        for (int i = 0; i < text.length(); i++) {
            game.append(text.charAt(i));
        }
    }

    static int play(TankDivers game, String text) {
        game.clear();
        write(game, text);
        return game.play();
    }

    /** Does the turns by calls of move, take, lay and nothing, and tells what the last one answered. */
    static int act(TankDivers game, String turns) {
        int answer = 0;
        for (int i = 0; i < turns.length(); i++) {
            answer = switch (turns.charAt(i)) {
                case 'd' -> game.move(false);
                case 'u' -> game.move(true);
                case 't' -> game.take();
                case 'n' -> game.nothing();
                case 'l' -> {
                    i++;
                    yield game.lay(turns.charAt(i) - '0');
                }
                default -> throw new IllegalArgumentException(turns);
            };
        }
        return answer;
    }

    /** A new object whose game has so many divers, began with the lot and has come as far as the turns. */
    static TankDivers at(int divers, int lot, String turns) {
        TankDivers game = new TankDivers();
        game.begin(divers, lot);
        act(game, turns);
        return game;
    }

    /** The place of the diver on turn. */
    static int place(TankDivers game) {
        return game.diver(game.count(3), 0);
    }

    /** How many stacks the diver on turn has. */
    static int held(TankDivers game) {
        return game.diver(game.count(3), 3);
    }

    /** All divers who are out turn back as soon as they can, until the round ends. */
    static void endRound(TankDivers game) {
        int round = game.count(2);
        for (int i = 0; i < 60 && game.count(2) == round; i++) {
            int diver = game.count(3);
            if (game.count(4) == 0) {
                game.move(game.diver(diver, 1) == 0 && game.diver(diver, 0) > 0);
            }
            game.nothing();
        }
    }

    /** The diver 0 has six stacks and is on turn. */
    static TankDivers withSixStacks() {
        for (int x = 0; x < 10000; x++) {
            TankDivers game = new TankDivers();
            game.begin(2, x);
            for (int turn = 0; turn < 12; turn++) {
                game.move(false);
                if (turn % 2 == 1 || game.take() < 10) {
                    game.nothing();
                }
            }
            if (game.diver(0, 3) == 6) {
                return game;
            }
        }
        throw new IllegalStateException("no lot gives six stacks");
    }

    /** Everything that the looks tell, but the pad and the history. */
    static String look(TankDivers game) {
        StringBuilder seen = new StringBuilder();
        for (int what = 0; what <= 13; what++) {
            seen.append(game.count(what)).append(' ');
        }
        for (int diver = 0; diver < game.count(0); diver++) {
            seen.append("| ");
            for (int what = 0; what <= 8; what++) {
                seen.append(game.diver(diver, what)).append(' ');
            }
            for (int stack = 0; stack < 7; stack++) {
                for (int what = 0; what <= 3; what++) {
                    seen.append(game.stack(diver, stack, what)).append(' ');
                }
            }
        }
        for (int space = 1; space <= 17; space++) {
            seen.append("/ ");
            for (int what = 0; what <= 2; what++) {
                seen.append(game.space(space, what)).append(' ');
            }
        }
        return seen.append(game.leader()).append(' ').append(game.used()).toString();
    }
}
