/** Divers who share one tank of breath. README.md tells how to use it. */
public final class TankDivers {
    public static final int INVALID_ARGUMENT = -1;
    public static final int NOT_POSSIBLE = -2;
    public static final int LIMIT_REACHED = -3;
    public static final int NOT_FOUND = -4;

    private static final int FEWEST_DIVERS = 2;
    private static final int MOST_DIVERS = 4;
    private static final int ROUNDS = 3;
    private static final int BREATHS = 25;
    private static final int SHIP = 0;
    private static final int TREASURES = 16;
    private static final int MOST_STACKS = 6;
    private static final int MOST_IN_STACK = 3;
    private static final int LOTS = 10000;
    private static final int DIE_SIDES = 3;
    private static final int THROWS = DIE_SIDES * DIE_SIDES;
    private static final int MOST_MOVES_AHEAD = 6;
    private static final int PAD_LIMIT = 60;
    private static final int HISTORY_LIMIT = 4;

    /** What is done answers at least this, what is refused answers a reason, which is below. */
    private static final int DONE = 10;

    private static final int NO_REASON = 0;
    private static final int GAME_IS_OVER = 1;
    private static final int TIME_FOR_MOVE = 2;
    private static final int TIME_FOR_DEED = 3;
    private static final int CANNOT_TURN_BACK = 4;
    private static final int IN_THE_SHIP = 5;
    private static final int NO_SUCH_STACK = 6;
    private static final int SPACE_NOT_BLANK = 7;
    private static final int TOO_MANY_STACKS = 8;

    private static final char MOVE_ON = 'd';
    private static final char MOVE_BACK = 'u';
    private static final char TAKE = 't';
    private static final char NOTHING = 'n';
    private static final char LAY = 'l';
    private static final char FIRST_NUMBER = '0';
    private static final char LAST_NUMBER = '5';

    private final Game game = new Game();
    private final Game snapshot = new Game();
    private final History history = new History();
    private final Pad pad = new Pad();
    private final Odds odds = new Odds();
    private boolean hasSnapshot;
    private int stopReason = NO_REASON;
    private int stopPosition;

    public TankDivers() {
        game.deal(FEWEST_DIVERS, 1);
    }

    // ---- the game

    public int begin(int divers, int x) {
        if (divers < FEWEST_DIVERS || divers > MOST_DIVERS || x < 0 || x >= LOTS) {
            return INVALID_ARGUMENT;
        }
        history.record(game);
        game.deal(divers, x);
        return game.allValues();
    }

    public int move(boolean back) {
        history.record(game);
        return game.makeMove(back);
    }

    public int take() {
        history.record(game);
        return game.doDeed(TAKE, 0);
    }

    public int lay(int stack) {
        history.record(game);
        return game.doDeed(LAY, stack);
    }

    public int nothing() {
        history.record(game);
        return game.doDeed(NOTHING, 0);
    }

    // ---- texts

    public int append(int code) {
        if (code < 33 || code > 126) {
            return INVALID_ARGUMENT;
        }
        return pad.write(code);
    }

    public int clear() {
        return pad.wipe();
    }

    public int fault() {
        return pad.firstFault();
    }

    public int play() {
        if (pad.firstFault() != NOT_FOUND) {
            return NOT_POSSIBLE;
        }
        history.record(game);
        stopReason = NO_REASON;
        int done = 0;
        int length = pad.length();
        for (int at = 0; at < length && stopReason == NO_REASON; at++) {
            int letter = pad.letterAt(at);
            if (letter >= FIRST_NUMBER && letter <= LAST_NUMBER) {
                continue;
            }
            int answer = letter == MOVE_ON || letter == MOVE_BACK
                    ? game.makeMove(letter == MOVE_BACK)
                    : game.doDeed(letter, pad.letterAt(at + 1) - FIRST_NUMBER);
            if (answer >= DONE) {
                done++;
            } else {
                stopReason = answer;
                stopPosition = at;
            }
        }
        pad.wipe();
        return done;
    }

    public int why(int what) {
        if (what < 0 || what > 1) {
            return INVALID_ARGUMENT;
        }
        if (stopReason == NO_REASON) {
            return NOT_FOUND;
        }
        return what == 0 ? stopReason : stopPosition;
    }

    // ---- looks; nothing is changed

    public int diver(int diver, int what) {
        if (!game.crew.has(diver)) {
            return INVALID_ARGUMENT;
        }
        return game.crew.propertyOf(diver, what);
    }

    public int stack(int diver, int stack, int what) {
        if (!game.crew.has(diver) || stack < 0 || what < 0 || what > MOST_IN_STACK) {
            return INVALID_ARGUMENT;
        }
        if (stack >= game.crew.held.get(diver)) {
            return NOT_FOUND;
        }
        int pile = game.crew.pileOf(diver, stack);
        int size = Pile.sizeOf(pile);
        if (what == 0) {
            return size;
        }
        return what <= size ? Pile.valueAt(pile, what - 1) : NOT_FOUND;
    }

    public int space(int space, int what) {
        if (space < 1 || space > game.path.spaces) {
            return INVALID_ARGUMENT;
        }
        switch (what) {
            case 0: return Pile.sizeOf(game.path.pileAt(space));
            case 1: return Pile.sumOf(game.path.pileAt(space));
            case 2: return game.crew.diverAt(space);
            default: return INVALID_ARGUMENT;
        }
    }

    public int count(int what) {
        switch (what) {
            case 0: return game.crew.size;
            case 1: return game.path.spaces;
            case 2: return game.round;
            case 3: return game.isOver() ? NOT_FOUND : game.onTurn;
            case 4: return game.isOver() ? 2 : game.deedDue ? 1 : 0;
            case 5: return game.tank;
            case 6: return game.path.blanks();
            case 7: return game.path.values();
            case 8: return game.crew.heldValues();
            case 9: return game.crew.ownedValues();
            case 10: return game.allTreasures();
            case 11: return game.shown;
            case 12: return game.refused;
            case 13: return game.lot;
            case 14: return pad.length();
            case 15: return history.size();
            default: return INVALID_ARGUMENT;
        }
    }

    public int leader() {
        return game.crew.best();
    }

    // ---- what would be; nothing is changed

    public int chances(int place, boolean back, int way) {
        if (place < SHIP || place > game.path.spaces || way < 0 || way > 1) {
            return INVALID_ARGUMENT;
        }
        if (game.whyNoMove(back) != NO_REASON) {
            return NOT_POSSIBLE;
        }
        return way == 0 ? odds.byThrows(game, place, back) : odds.bySums(game, place, back);
    }

    public int homeward(int moves) {
        if (moves < 1 || moves > MOST_MOVES_AHEAD) {
            return INVALID_ARGUMENT;
        }
        if (game.whyNoMove(false) != NO_REASON || game.placeOnTurn() == SHIP) {
            return NOT_POSSIBLE;
        }
        return odds.home(game, moves);
    }

    public int used() {
        return game.crew.heldByThoseOut();
    }

    public double brought() {
        int all = game.allValues();
        return all == 0 ? 0.0 : (double) game.crew.ownedValues() / (double) all;
    }

    // ---- history, snapshot

    public int undo() {
        return history.takeBack(game);
    }

    public int save() {
        snapshot.copyFrom(game);
        hasSnapshot = true;
        return game.round;
    }

    public int restore() {
        if (!hasSnapshot) {
            return NOT_POSSIBLE;
        }
        history.record(game);
        game.copyFrom(snapshot);
        return game.round;
    }

    /** A row of numbers that may be asked at any index: what is outside of it is 0. */
    private static final class Row {
        private final int[] cells;

        Row(int length) {
            cells = new int[Math.max(length, 0)];
        }

        int get(int index) {
            return index >= 0 && index < cells.length ? cells[index] : 0;
        }

        void set(int index, int value) {
            if (index >= 0 && index < cells.length) {
                cells[index] = value;
            }
        }

        void add(int index, int value) {
            set(index, get(index) + value);
        }

        int sum() {
            int sum = 0;
            for (int i = 0; i < cells.length; i++) {
                sum += cells[i];
            }
            return sum;
        }

        void wipe() {
            for (int i = 0; i < cells.length; i++) {
                cells[i] = 0;
            }
        }

        void copyFrom(Row other) {
            for (int i = 0; i < cells.length; i++) {
                cells[i] = other.get(i);
            }
        }
    }

    /**
     * A stack as one number, so that it moves and is copied without a new object: four bits for
     * each value, from the bottom to the top, and above them the size. No treasures are 0.
     */
    private static final class Pile {
        private static final int BLANK = 0;
        private static final int VALUE_BITS = 4;
        private static final int SIZE_SHIFT = VALUE_BITS * MOST_IN_STACK;

        static int sizeOf(int pile) {
            return pile >> SIZE_SHIFT;
        }

        static int valueAt(int pile, int height) {
            return pile >> (VALUE_BITS * height) & 15;
        }

        static int sumOf(int pile) {
            return valueAt(pile, 0) + valueAt(pile, 1) + valueAt(pile, 2);
        }

        static int withOnTop(int pile, int value) {
            return pile + (1 << SIZE_SHIFT) + (value << VALUE_BITS * sizeOf(pile));
        }
    }

    /** The spaces, from 1 on; the ship, 0, has a cell here that stays blank. */
    private static final class Path {
        private final Row piles = new Row(TREASURES + 1);
        private int spaces;

        int pileAt(int space) {
            return piles.get(space);
        }

        void setPile(int space, int pile) {
            piles.set(space, pile);
        }

        void addSpace(int pile) {
            spaces++;
            piles.set(spaces, pile);
        }

        int blanks() {
            int blanks = 0;
            for (int space = 1; space <= spaces; space++) {
                blanks += piles.get(space) == Pile.BLANK ? 1 : 0;
            }
            return blanks;
        }

        int treasures() {
            int treasures = 0;
            for (int space = 1; space <= spaces; space++) {
                treasures += Pile.sizeOf(piles.get(space));
            }
            return treasures;
        }

        int values() {
            int values = 0;
            for (int space = 1; space <= spaces; space++) {
                values += Pile.sumOf(piles.get(space));
            }
            return values;
        }

        void closeUp() {
            int before = spaces;
            spaces = 0;
            for (int space = 1; space <= before; space++) {
                int pile = piles.get(space);
                if (pile != Pile.BLANK) {
                    addSpace(pile);
                }
            }
        }

        void addStacks(Row treasures, int number) {
            int pile = Pile.BLANK;
            for (int i = 0; i < number; i++) {
                pile = Pile.withOnTop(pile, treasures.get(i));
                if (Pile.sizeOf(pile) == MOST_IN_STACK || i == number - 1) {
                    addSpace(pile);
                    pile = Pile.BLANK;
                }
            }
        }

        void copyFrom(Path other) {
            piles.copyFrom(other.piles);
            spaces = other.spaces;
        }
    }

    /** The divers, with what each of them has. */
    private static final class Crew {
        private final Row places = new Row(MOST_DIVERS);
        private final Row goingUp = new Row(MOST_DIVERS);
        private final Row home = new Row(MOST_DIVERS);
        private final Row held = new Row(MOST_DIVERS);
        private final Row piles = new Row(MOST_DIVERS * MOST_STACKS);
        private final Row scores = new Row(MOST_DIVERS);
        private final Row owned = new Row(MOST_DIVERS);
        private final Row drowned = new Row(MOST_DIVERS);
        private int size;

        boolean has(int diver) {
            return diver >= 0 && diver < size;
        }

        void muster(int divers) {
            size = divers;
            scores.wipe();
            owned.wipe();
            drowned.wipe();
            toShip();
        }

        void toShip() {
            places.wipe();
            goingUp.wipe();
            home.wipe();
            held.wipe();
        }

        int propertyOf(int diver, int what) {
            switch (what) {
                case 0: return places.get(diver);
                case 1: return goingUp.get(diver);
                case 2: return home.get(diver);
                case 3: return held.get(diver);
                case 4: return treasuresHeldBy(diver);
                case 5: return valuesHeldBy(diver);
                case 6: return scores.get(diver);
                case 7: return owned.get(diver);
                case 8: return drowned.get(diver);
                default: return INVALID_ARGUMENT;
            }
        }

        private static int cellOf(int diver, int stack) {
            return diver * MOST_STACKS + stack;
        }

        int pileOf(int diver, int stack) {
            return piles.get(cellOf(diver, stack));
        }

        void addPile(int diver, int pile) {
            piles.set(cellOf(diver, held.get(diver)), pile);
            held.add(diver, 1);
        }

        int removePile(int diver, int stack) {
            int pile = pileOf(diver, stack);
            int left = held.get(diver) - 1;
            for (int i = stack; i < left; i++) {
                piles.set(cellOf(diver, i), piles.get(cellOf(diver, i + 1)));
            }
            held.set(diver, left);
            return pile;
        }

        int treasuresHeldBy(int diver) {
            int treasures = 0;
            for (int i = 0; i < held.get(diver); i++) {
                treasures += Pile.sizeOf(piles.get(cellOf(diver, i)));
            }
            return treasures;
        }

        int valuesHeldBy(int diver) {
            int values = 0;
            for (int i = 0; i < held.get(diver); i++) {
                values += Pile.sumOf(piles.get(cellOf(diver, i)));
            }
            return values;
        }

        int heldTreasures() {
            int treasures = 0;
            for (int diver = 0; diver < size; diver++) {
                treasures += treasuresHeldBy(diver);
            }
            return treasures;
        }

        int heldValues() {
            int values = 0;
            for (int diver = 0; diver < size; diver++) {
                values += valuesHeldBy(diver);
            }
            return values;
        }

        int heldByThoseOut() {
            int stacks = 0;
            for (int diver = 0; diver < size; diver++) {
                stacks += isHome(diver) ? 0 : held.get(diver);
            }
            return stacks;
        }

        int ownedValues() {
            return scores.sum();
        }

        boolean isHome(int diver) {
            return home.get(diver) == 1;
        }

        boolean allHome() {
            return home.sum() == size;
        }

        int diverAt(int space) {
            for (int diver = 0; diver < size; diver++) {
                if (places.get(diver) == space) {
                    return diver;
                }
            }
            return NOT_FOUND;
        }

        boolean isFreeFor(int diver, int space) {
            for (int other = 0; other < size; other++) {
                if (other != diver && places.get(other) == space) {
                    return false;
                }
            }
            return true;
        }

        int nextOut(int diver) {
            int next = diver;
            for (int i = 0; i < size; i++) {
                next = next + 1 < size ? next + 1 : 0;
                if (!isHome(next)) {
                    return next;
                }
            }
            return diver;
        }

        int deepest() {
            int deepest = 0;
            for (int diver = 1; diver < size; diver++) {
                if (places.get(diver) > places.get(deepest)) {
                    deepest = diver;
                }
            }
            return deepest;
        }

        int best() {
            int best = 0;
            for (int diver = 1; diver < size; diver++) {
                if (scores.get(diver) > scores.get(best)) {
                    best = diver;
                }
            }
            return best;
        }

        void bringStacks() {
            for (int diver = 0; diver < size; diver++) {
                if (isHome(diver)) {
                    scores.add(diver, valuesHeldBy(diver));
                    owned.add(diver, treasuresHeldBy(diver));
                } else {
                    drowned.add(diver, 1);
                }
            }
        }

        /** Puts the treasures of those who drowned into the row, and tells how many they are. */
        int sinkInto(Row lost, int lastSpace) {
            int number = 0;
            for (int place = lastSpace; place >= SHIP; place--) {
                for (int diver = 0; diver < size; diver++) {
                    if (places.get(diver) == place && !isHome(diver)) {
                        number = sinkStacksOf(diver, lost, number);
                    }
                }
            }
            return number;
        }

        private int sinkStacksOf(int diver, Row lost, int before) {
            int number = before;
            for (int i = 0; i < held.get(diver); i++) {
                int pile = piles.get(cellOf(diver, i));
                for (int height = 0; height < Pile.sizeOf(pile); height++) {
                    lost.set(number, Pile.valueAt(pile, height));
                    number++;
                }
            }
            return number;
        }

        void copyFrom(Crew other) {
            size = other.size;
            places.copyFrom(other.places);
            goingUp.copyFrom(other.goingUp);
            home.copyFrom(other.home);
            held.copyFrom(other.held);
            piles.copyFrom(other.piles);
            scores.copyFrom(other.scores);
            owned.copyFrom(other.owned);
            drowned.copyFrom(other.drowned);
        }
    }

    /** All that undo and the snapshot bring back, and the rules of moves, deeds and rounds. */
    private static final class Game {
        private final Path path = new Path();
        private final Crew crew = new Crew();
        private final Row lost = new Row(TREASURES);
        private int lot;
        private int round;
        private int onTurn;
        private boolean deedDue;
        private int tank;
        private int shown;
        private int refused;

        void deal(int divers, int x) {
            lot = x;
            path.spaces = 0;
            for (int space = 1; space <= TREASURES; space++) {
                drawLot();
                path.addSpace(Pile.withOnTop(Pile.BLANK, (space - 1) / 4 * 4 + lot % 4));
            }
            crew.muster(divers);
            round = 0;
            onTurn = 0;
            deedDue = false;
            tank = BREATHS;
            shown = 0;
        }

        private void drawLot() {
            lot = (421 * lot + 1663) % LOTS;
        }

        private int throwDie() {
            drawLot();
            return 1 + lot % DIE_SIDES;
        }

        boolean isOver() {
            return round >= ROUNDS;
        }

        int placeOnTurn() {
            return crew.places.get(onTurn);
        }

        int allValues() {
            return path.values() + crew.heldValues() + crew.ownedValues();
        }

        int allTreasures() {
            return path.treasures() + crew.heldTreasures() + crew.owned.sum();
        }

        int whyNoMove(boolean back) {
            if (isOver()) {
                return GAME_IS_OVER;
            }
            if (deedDue) {
                return TIME_FOR_DEED;
            }
            return back && (goesUp() || placeOnTurn() == SHIP) ? CANNOT_TURN_BACK : NO_REASON;
        }

        boolean goesUp() {
            return crew.goingUp.get(onTurn) == 1;
        }

        int makeMove(boolean back) {
            int reason = whyNoMove(back);
            if (reason != NO_REASON) {
                refused++;
                return reason;
            }
            tank -= Math.min(tank, crew.held.get(onTurn));
            if (back) {
                crew.goingUp.set(onTurn, 1);
            }
            shown = throwDie() + throwDie();
            int place = landing(placeOnTurn(), goesUp(), shown);
            crew.places.set(onTurn, place);
            if (goesUp() && place == SHIP) {
                crew.home.set(onTurn, 1);
            }
            deedDue = true;
            return DONE + place;
        }

        /** Where the diver on turn would be from that place, if both dice showed so much. */
        int landing(int from, boolean up, int dice) {
            int steps = dice - crew.held.get(onTurn);
            int place = from;
            for (int step = 0; step < steps; step++) {
                place = up ? stepUp(place) : stepDown(place);
            }
            return place;
        }

        private int stepUp(int from) {
            for (int space = from - 1; space > SHIP; space--) {
                if (crew.isFreeFor(onTurn, space)) {
                    return space;
                }
            }
            return SHIP;
        }

        private int stepDown(int from) {
            for (int space = from + 1; space <= path.spaces; space++) {
                if (crew.isFreeFor(onTurn, space)) {
                    return space;
                }
            }
            return from;
        }

        int doDeed(int letter, int stack) {
            int reason = whyNoDeed(letter, stack);
            if (reason != NO_REASON) {
                refused++;
                return reason;
            }
            int space = placeOnTurn();
            int answer = DONE;
            if (letter == TAKE) {
                crew.addPile(onTurn, path.pileAt(space));
                path.setPile(space, Pile.BLANK);
                answer += crew.held.get(onTurn);
            } else if (letter == LAY) {
                path.setPile(space, crew.removePile(onTurn, stack));
                answer += crew.held.get(onTurn);
            }
            deedDue = false;
            if (tank == 0 || crew.allHome()) {
                endRound();
            } else {
                onTurn = crew.nextOut(onTurn);
            }
            return answer;
        }

        private int whyNoDeed(int letter, int stack) {
            if (isOver()) {
                return GAME_IS_OVER;
            }
            if (!deedDue) {
                return TIME_FOR_MOVE;
            }
            if (letter == NOTHING) {
                return NO_REASON;
            }
            if (placeOnTurn() == SHIP) {
                return IN_THE_SHIP;
            }
            return letter == TAKE ? whyNotTake() : whyNotLay(stack);
        }

        private int whyNotTake() {
            if (path.pileAt(placeOnTurn()) == Pile.BLANK) {
                return NO_SUCH_STACK;
            }
            return crew.held.get(onTurn) < MOST_STACKS ? NO_REASON : TOO_MANY_STACKS;
        }

        private int whyNotLay(int stack) {
            if (stack < 0 || stack >= crew.held.get(onTurn)) {
                return NO_SUCH_STACK;
            }
            return path.pileAt(placeOnTurn()) == Pile.BLANK ? NO_REASON : SPACE_NOT_BLANK;
        }

        private void endRound() {
            int sunk = crew.sinkInto(lost, path.spaces);
            crew.bringStacks();
            path.closeUp();
            path.addStacks(lost, sunk);
            onTurn = crew.deepest();
            crew.toShip();
            tank = BREATHS;
            round++;
        }

        void copyFrom(Game other) {
            path.copyFrom(other.path);
            crew.copyFrom(other.crew);
            lot = other.lot;
            round = other.round;
            onTurn = other.onTurn;
            deedDue = other.deedDue;
            tank = other.tank;
            shown = other.shown;
            refused = other.refused;
        }
    }

    /** How likely the diver on turn would come to a place. */
    private static final class Odds {
        private final Row now = new Row(TREASURES + 1);
        private final Row next = new Row(TREASURES + 1);

        int byThrows(Game game, int place, boolean back) {
            boolean up = back || game.goesUp();
            int leading = 0;
            for (int first = 1; first <= DIE_SIDES; first++) {
                for (int second = 1; second <= DIE_SIDES; second++) {
                    if (game.landing(game.placeOnTurn(), up, first + second) == place) {
                        leading++;
                    }
                }
            }
            return leading;
        }

        int bySums(Game game, int place, boolean back) {
            boolean up = back || game.goesUp();
            int leading = 0;
            for (int sum = 2; sum <= 2 * DIE_SIDES; sum++) {
                if (game.landing(game.placeOnTurn(), up, sum) == place) {
                    leading += throwsShowing(sum);
                }
            }
            return leading;
        }

        private static int throwsShowing(int sum) {
            return DIE_SIDES - Math.abs(sum - DIE_SIDES - 1);
        }

        int home(Game game, int moves) {
            now.wipe();
            now.set(game.placeOnTurn(), 1);
            for (int i = 0; i < moves; i++) {
                moveUp(game);
            }
            return now.get(SHIP);
        }

        /** Spreads what led to each place over the places behind one more move upwards. */
        private void moveUp(Game game) {
            next.wipe();
            next.set(SHIP, now.get(SHIP) * THROWS);
            for (int place = 1; place <= game.path.spaces; place++) {
                int ways = now.get(place);
                for (int sum = 2; sum <= 2 * DIE_SIDES && ways > 0; sum++) {
                    next.add(game.landing(place, true, sum), ways * throwsShowing(sum));
                }
            }
            now.copyFrom(next);
        }
    }

    /** The text that is written letter by letter. */
    private static final class Pad {
        private static final int WRONG = 0;
        private static final int MOVE_DUE = 1;
        private static final int DEED_DUE = 2;
        private static final int NUMBER_DUE = 3;

        private final Row letters = new Row(PAD_LIMIT);
        private int length;

        int length() {
            return length;
        }

        int letterAt(int position) {
            return letters.get(position);
        }

        int write(int code) {
            if (length >= PAD_LIMIT) {
                return LIMIT_REACHED;
            }
            letters.set(length, code);
            length++;
            return length;
        }

        int wipe() {
            int before = length;
            length = 0;
            return before;
        }

        int firstFault() {
            int due = MOVE_DUE;
            for (int at = 0; at < length; at++) {
                due = dueBehind(due, letters.get(at));
                if (due == WRONG) {
                    return at;
                }
            }
            return length > 0 && due == MOVE_DUE ? NOT_FOUND : length;
        }

        private static int dueBehind(int due, int letter) {
            if (due == MOVE_DUE) {
                return letter == MOVE_ON || letter == MOVE_BACK ? DEED_DUE : WRONG;
            }
            if (due == NUMBER_DUE) {
                return letter >= FIRST_NUMBER && letter <= LAST_NUMBER ? MOVE_DUE : WRONG;
            }
            if (letter == LAY) {
                return NUMBER_DUE;
            }
            return letter == TAKE || letter == NOTHING ? MOVE_DUE : WRONG;
        }
    }

    /** The states before the latest changes; their objects are used again and again. */
    private static final class History {
        private final Game[] states = new Game[HISTORY_LIMIT];
        private int size;

        History() {
            for (int i = 0; i < states.length; i++) {
                states[i] = new Game();
            }
        }

        int size() {
            return size;
        }

        void record(Game game) {
            if (size >= states.length) {
                dropOldest();
            }
            Game state = stateAt(size);
            if (state != null) {
                state.copyFrom(game);
                size++;
            }
        }

        /** The oldest state's object goes to the end, where the next state is written into it. */
        private void dropOldest() {
            Game oldest = stateAt(0);
            for (int i = 1; i < states.length; i++) {
                states[i - 1] = states[i];
            }
            if (states.length > 0) {
                states[states.length - 1] = oldest;
            }
            size = states.length - 1;
        }

        int takeBack(Game game) {
            Game state = stateAt(size - 1);
            if (state == null) {
                return NOT_POSSIBLE;
            }
            game.copyFrom(state);
            size--;
            return size;
        }

        private Game stateAt(int index) {
            return index >= 0 && index < states.length ? states[index] : null;
        }
    }
}
