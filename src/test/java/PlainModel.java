import java.util.ArrayDeque;
import java.util.ArrayList;
import java.util.Deque;
import java.util.List;
import java.util.regex.Pattern;

/**
 * The document told a second time, in the plainest words that lists allow and with no code of the
 * program, so that random runs can be held against it.
 */
final class PlainModel {
    private static final int INVALID = -1;
    private static final int IMPOSSIBLE = -2;
    private static final int LIMIT = -3;
    private static final int NONE = -4;

    private static final class Person {
        int place;
        boolean up;
        boolean home;
        List<List<Integer>> stacks = new ArrayList<>();
        List<Integer> own = new ArrayList<>();
        int drowned;

        Person copy() {
            Person copy = new Person();
            copy.place = place;
            copy.up = up;
            copy.home = home;
            for (List<Integer> stack : stacks) {
                copy.stacks.add(new ArrayList<>(stack));
            }
            copy.own.addAll(own);
            copy.drowned = drowned;
            return copy;
        }
    }

    private static final class State {
        List<Person> persons = new ArrayList<>();
        List<List<Integer>> path = new ArrayList<>();
        int lot;
        int round;
        int turn;
        boolean deed;
        int tank;
        int dice;
        int refused;

        State copy() {
            State copy = new State();
            for (Person person : persons) {
                copy.persons.add(person.copy());
            }
            for (List<Integer> space : path) {
                copy.path.add(new ArrayList<>(space));
            }
            copy.lot = lot;
            copy.round = round;
            copy.turn = turn;
            copy.deed = deed;
            copy.tank = tank;
            copy.dice = dice;
            copy.refused = refused;
            return copy;
        }
    }

    private State now = new State();
    private State saved = null;
    private final Deque<State> history = new ArrayDeque<>();
    private String pad = "";
    private int[] stopped = null;

    PlainModel() {
        deal(2, 1);
    }

    private static int total(List<Integer> values) {
        return values.stream().mapToInt(Integer::intValue).sum();
    }

    private static int totalOfAll(List<List<Integer>> stacks) {
        return stacks.stream().mapToInt(PlainModel::total).sum();
    }

    private static int numberOfAll(List<List<Integer>> stacks) {
        return stacks.stream().mapToInt(List::size).sum();
    }

    private int draw() {
        now.lot = (421 * now.lot + 1663) % 10000;
        return now.lot;
    }

    private void deal(int divers, int x) {
        int refused = now.refused;
        now = new State();
        now.refused = refused;
        now.lot = x;
        for (int s = 1; s <= 16; s++) {
            now.path.add(new ArrayList<>(List.of(4 * ((s - 1) / 4) + draw() % 4)));
        }
        for (int i = 0; i < divers; i++) {
            now.persons.add(new Person());
        }
        now.tank = 25;
    }

    private void record() {
        history.addLast(now.copy());
        if (history.size() == 5) {
            history.removeFirst();
        }
    }

    int begin(int divers, int x) {
        if (divers < 2 || divers > 4 || x < 0 || x > 9999) {
            return INVALID;
        }
        record();
        deal(divers, x);
        return allValues();
    }

    private int allValues() {
        int values = totalOfAll(now.path);
        for (Person person : now.persons) {
            values += totalOfAll(person.stacks) + total(person.own);
        }
        return values;
    }

    private Person who() {
        return now.persons.get(now.turn);
    }

    private int refusal(int reason) {
        now.refused++;
        return reason;
    }

    private int reasonAgainstMove(boolean back) {
        if (now.round == 3) {
            return 1;
        }
        if (now.deed) {
            return 3;
        }
        return back && (who().up || who().place == 0) ? 4 : 0;
    }

    private int walk(int from, boolean up, int steps) {
        if (steps <= 0) {
            return from;
        }
        List<Integer> free = new ArrayList<>();
        for (int s = 1; s <= now.path.size(); s++) {
            int space = s;
            boolean other = now.persons.stream().anyMatch(p -> p != who() && p.place == space);
            if (!other && (up ? s < from : s > from)) {
                free.add(s);
            }
        }
        if (up) {
            return free.size() < steps ? 0 : free.get(free.size() - steps);
        }
        return free.isEmpty() ? from : free.get(Math.min(steps, free.size()) - 1);
    }

    private int goOn(boolean back) {
        int reason = reasonAgainstMove(back);
        if (reason != 0) {
            return refusal(reason);
        }
        Person person = who();
        now.tank = Math.max(0, now.tank - person.stacks.size());
        person.up |= back;
        now.dice = 1 + draw() % 3;
        now.dice += 1 + draw() % 3;
        person.place = walk(person.place, person.up, now.dice - person.stacks.size());
        person.home = person.up && person.place == 0;
        now.deed = true;
        return 10 + person.place;
    }

    int move(boolean back) {
        record();
        return goOn(back);
    }

    private int reasonAgainstDeed() {
        return now.round == 3 ? 1 : !now.deed ? 2 : 0;
    }

    private List<Integer> here() {
        return now.path.get(who().place - 1);
    }

    private int takeUp() {
        int reason = reasonAgainstDeed();
        if (reason == 0 && who().place == 0) {
            reason = 5;
        }
        if (reason == 0 && here().isEmpty()) {
            reason = 6;
        }
        if (reason == 0 && who().stacks.size() == 6) {
            reason = 8;
        }
        if (reason != 0) {
            return refusal(reason);
        }
        who().stacks.add(new ArrayList<>(here()));
        here().clear();
        int answer = 10 + who().stacks.size();
        goAround();
        return answer;
    }

    int take() {
        record();
        return takeUp();
    }

    private int layDown(int stack) {
        int reason = reasonAgainstDeed();
        if (reason == 0 && who().place == 0) {
            reason = 5;
        }
        if (reason == 0 && (stack < 0 || stack >= who().stacks.size())) {
            reason = 6;
        }
        if (reason == 0 && !here().isEmpty()) {
            reason = 7;
        }
        if (reason != 0) {
            return refusal(reason);
        }
        here().addAll(who().stacks.remove(stack));
        int answer = 10 + who().stacks.size();
        goAround();
        return answer;
    }

    int lay(int stack) {
        record();
        return layDown(stack);
    }

    private int rest() {
        int reason = reasonAgainstDeed();
        if (reason != 0) {
            return refusal(reason);
        }
        goAround();
        return 10;
    }

    int nothing() {
        record();
        return rest();
    }

    private void goAround() {
        now.deed = false;
        if (now.tank == 0 || now.persons.stream().allMatch(p -> p.home)) {
            endRound();
            return;
        }
        do {
            now.turn = (now.turn + 1) % now.persons.size();
        } while (who().home);
    }

    private void endRound() {
        List<Person> fromDeepest = new ArrayList<>(now.persons);
        fromDeepest.sort((a, b) -> b.place - a.place);
        List<Integer> sunk = new ArrayList<>();
        for (Person person : fromDeepest) {
            List<Integer> into = person.home ? person.own : sunk;
            person.stacks.forEach(into::addAll);
            person.drowned += person.home ? 0 : 1;
        }
        now.path.removeIf(List::isEmpty);
        for (int i = 0; i < sunk.size(); i += 3) {
            now.path.add(new ArrayList<>(sunk.subList(i, Math.min(i + 3, sunk.size()))));
        }
        now.turn = now.persons.indexOf(fromDeepest.get(0));
        for (Person person : now.persons) {
            person.place = 0;
            person.up = false;
            person.home = false;
            person.stacks.clear();
        }
        now.tank = 25;
        now.round++;
    }

    int append(int code) {
        if (code < 33 || code > 126) {
            return INVALID;
        }
        if (pad.length() == 60) {
            return LIMIT;
        }
        pad += (char) code;
        return pad.length();
    }

    int clear() {
        int length = pad.length();
        pad = "";
        return length;
    }

    private static final Pattern TURNS = Pattern.compile("([du]([tn]|l[0-5]))+");

    private static boolean canBecomeTurns(String text) {
        return List.of("", "t", "0", "dt").stream().anyMatch(end -> TURNS.matcher(text + end).matches());
    }

    int fault() {
        for (int i = 0; i < pad.length(); i++) {
            if (!canBecomeTurns(pad.substring(0, i + 1))) {
                return i;
            }
        }
        return TURNS.matcher(pad).matches() ? NONE : pad.length();
    }

    int play() {
        if (fault() != NONE) {
            return IMPOSSIBLE;
        }
        record();
        stopped = null;
        int done = 0;
        for (int i = 0; i < pad.length() && stopped == null; i++) {
            int answer = switch (pad.charAt(i)) {
                case 'd' -> goOn(false);
                case 'u' -> goOn(true);
                case 't' -> takeUp();
                case 'n' -> rest();
                case 'l' -> layDown(pad.charAt(i + 1) - '0');
                default -> 0;
            };
            if (answer >= 10) {
                done++;
            } else if (answer > 0) {
                stopped = new int[] {answer, i};
            }
        }
        pad = "";
        return done;
    }

    int why(int what) {
        return what < 0 || what > 1 ? INVALID : stopped == null ? NONE : stopped[what];
    }

    int diver(int diver, int what) {
        if (diver < 0 || diver >= now.persons.size()) {
            return INVALID;
        }
        Person person = now.persons.get(diver);
        return switch (what) {
            case 0 -> person.place;
            case 1 -> person.up ? 1 : 0;
            case 2 -> person.home ? 1 : 0;
            case 3 -> person.stacks.size();
            case 4 -> numberOfAll(person.stacks);
            case 5 -> totalOfAll(person.stacks);
            case 6 -> total(person.own);
            case 7 -> person.own.size();
            case 8 -> person.drowned;
            default -> INVALID;
        };
    }

    int stack(int diver, int stack, int what) {
        if (diver < 0 || diver >= now.persons.size() || stack < 0 || what < 0 || what > 3) {
            return INVALID;
        }
        List<List<Integer>> stacks = now.persons.get(diver).stacks;
        if (stack >= stacks.size()) {
            return NONE;
        }
        List<Integer> values = stacks.get(stack);
        return what == 0 ? values.size() : what <= values.size() ? values.get(what - 1) : NONE;
    }

    int space(int space, int what) {
        if (space < 1 || space > now.path.size() || what < 0 || what > 2) {
            return INVALID;
        }
        List<Integer> values = now.path.get(space - 1);
        if (what == 2) {
            for (int i = 0; i < now.persons.size(); i++) {
                if (now.persons.get(i).place == space) {
                    return i;
                }
            }
            return NONE;
        }
        return what == 0 ? values.size() : total(values);
    }

    int count(int what) {
        boolean over = now.round == 3;
        int held = now.persons.stream().mapToInt(p -> totalOfAll(p.stacks)).sum();
        int own = now.persons.stream().mapToInt(p -> total(p.own)).sum();
        return switch (what) {
            case 0 -> now.persons.size();
            case 1 -> now.path.size();
            case 2 -> now.round;
            case 3 -> over ? NONE : now.turn;
            case 4 -> over ? 2 : now.deed ? 1 : 0;
            case 5 -> now.tank;
            case 6 -> (int) now.path.stream().filter(List::isEmpty).count();
            case 7 -> totalOfAll(now.path);
            case 8 -> held;
            case 9 -> own;
            case 10 -> 16;
            case 11 -> now.dice;
            case 12 -> now.refused;
            case 13 -> now.lot;
            case 14 -> pad.length();
            case 15 -> history.size();
            default -> INVALID;
        };
    }

    int leader() {
        int leader = 0;
        for (int i = 1; i < now.persons.size(); i++) {
            if (total(now.persons.get(i).own) > total(now.persons.get(leader).own)) {
                leader = i;
            }
        }
        return leader;
    }

    int chances(int place, boolean back, int way) {
        if (place < 0 || place > now.path.size() || way < 0 || way > 1) {
            return INVALID;
        }
        if (reasonAgainstMove(back) != 0) {
            return IMPOSSIBLE;
        }
        int leading = 0;
        for (int throwing = 0; throwing < 9; throwing++) {
            int dice = 2 + throwing / 3 + throwing % 3;
            int end = walk(who().place, back || who().up, dice - who().stacks.size());
            leading += end == place ? 1 : 0;
        }
        return leading;
    }

    private int ways(int place, int moves) {
        if (place == 0) {
            return (int) Math.pow(9, moves);
        }
        int ways = 0;
        for (int throwing = 0; throwing < 9 && moves > 0; throwing++) {
            int dice = 2 + throwing / 3 + throwing % 3;
            ways += ways(walk(place, true, dice - who().stacks.size()), moves - 1);
        }
        return ways;
    }

    int homeward(int moves) {
        if (moves < 1 || moves > 6) {
            return INVALID;
        }
        if (reasonAgainstMove(false) != 0 || who().place == 0) {
            return IMPOSSIBLE;
        }
        return ways(who().place, moves);
    }

    int used() {
        return now.persons.stream().filter(p -> !p.home).mapToInt(p -> p.stacks.size()).sum();
    }

    double brought() {
        return allValues() == 0 ? 0.0 : count(9) / (double) allValues();
    }

    int undo() {
        if (history.isEmpty()) {
            return IMPOSSIBLE;
        }
        now = history.removeLast();
        return history.size();
    }

    int save() {
        saved = now.copy();
        return now.round;
    }

    int restore() {
        if (saved == null) {
            return IMPOSSIBLE;
        }
        record();
        now = saved.copy();
        return now.round;
    }
}
