import java.util.function.Supplier;

/**
 * Holds two games against each other in all that can be told of them, and in what undo, restore and
 * play make of them. Each is made anew for each of these, as an object is used for 512 calls only.
 */
final class Twins {
    private static final int MOST_STATES = 4;

    private final Due due;

    Twins(Due due) {
        this.due = due;
    }

    /** All that is told, but how much was refused and how many states there are. */
    static String still(TankDivers game) {
        StringBuilder told = new StringBuilder();
        for (int what = 0; what <= 14; what++) {
            if (what != 12) {
                told.append(game.count(what)).append(' ');
            }
        }
        for (int diver = 0; diver < game.count(0); diver++) {
            tellDiver(told, game, diver);
        }
        for (int space = 1; space <= game.count(1); space++) {
            told.append("/ ").append(game.space(space, 0)).append(' ').append(game.space(space, 1)).append(' ')
                    .append(game.space(space, 2)).append(' ');
        }
        told.append("| ").append(game.leader()).append(' ').append(game.used()).append(' ').append(game.brought());
        told.append(" | ").append(game.fault()).append(' ').append(game.why(0)).append(' ').append(game.why(1));
        return told.toString();
    }

    private static void tellDiver(StringBuilder told, TankDivers game, int diver) {
        told.append("| ");
        for (int what = 0; what <= 8; what++) {
            told.append(game.diver(diver, what)).append(' ');
        }
        for (int stack = 0; stack < game.diver(diver, 3); stack++) {
            told.append("= ");
            for (int what = 0; what <= 3; what++) {
                told.append(game.stack(diver, stack, what)).append(' ');
            }
        }
    }

    static String whole(TankDivers game) {
        return still(game) + ", refused " + game.count(12) + ", states " + game.count(15);
    }

    void same(String what, Supplier<TankDivers> one, Supplier<TankDivers> other) {
        due.same(what + ": all that is told", whole(one.get()), whole(other.get()));
        due.same(what + ": by undo", undone(one), undone(other));
        due.same(what + ": by restore", restored(one.get()), restored(other.get()));
        due.same(what + ": by play", played(one.get()), played(other.get()));
    }

    private static String undone(Supplier<TankDivers> scene) {
        StringBuilder told = new StringBuilder();
        for (int steps = 1; steps <= MOST_STATES + 1; steps++) {
            TankDivers game = scene.get();
            for (int i = 0; i < steps; i++) {
                told.append(game.undo()).append(' ');
            }
            told.append(whole(game)).append('\n');
        }
        return told.toString();
    }

    private static String restored(TankDivers game) {
        return game.restore() + ": " + whole(game);
    }

    private static String played(TankDivers game) {
        return game.play() + ": " + whole(game);
    }
}
