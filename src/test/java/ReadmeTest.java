import java.io.IOException;
import java.nio.file.Files;
import java.nio.file.Path;
import java.util.List;
import java.util.regex.Matcher;
import java.util.regex.Pattern;
import java.util.stream.Stream;

/** README.md: its calls answer what it says, and it names every call and every test. */
final class ReadmeTest {
    private static final Path PAGE = Path.of("README.md");
    private static final Path TESTS = Path.of("src/test/java");
    private static final Due DUE = new Due();
    private static final Pattern CALL = Pattern.compile("game\\.(\\w+)\\((.*?)\\); +// (-?\\d+)(:.*)?");
    private static final Pattern TEXT = Pattern.compile("\"(.*)\"\\.chars\\(\\)\\.forEach\\(game::append\\); .*");
    private static final Pattern MAKING = Pattern.compile("TankDivers game = new TankDivers\\(\\); .*");

    private ReadmeTest() {
    }

    public static void main(String[] args) throws IOException {
        String page = Files.readString(PAGE);
        callsAnswerAsTold(page);
        everyCallIsNamed(page);
        everyTestIsNamed(page);
        DUE.end();
    }

    private static void callsAnswerAsTold(String page) {
        Matcher code = Pattern.compile("(?s)```java\n(.*?)```").matcher(page);
        DUE.so("there is an example", code.find());
        List<String> lines = code.group(1).lines().toList();
        DUE.so("it makes an object", MAKING.matcher(lines.get(0)).matches());
        TankDivers game = new TankDivers();
        for (String line : lines.subList(1, lines.size())) {
            Matcher text = TEXT.matcher(line);
            Matcher call = CALL.matcher(line);
            if (text.matches()) {
                text.group(1).chars().forEach(game::append);
            } else if (call.matches()) {
                DUE.is(line, answer(game, call.group(1), call.group(2)), Integer.parseInt(call.group(3)));
            } else {
                DUE.so("the line '" + line + "' tells a call and its answer", false);
            }
        }
    }

    private static int answer(TankDivers game, String name, String arguments) {
        String[] told = arguments.split(", ");
        return switch (name) {
            case "begin" -> game.begin(number(told[0]), number(told[1]));
            case "move" -> game.move(Boolean.parseBoolean(told[0]));
            case "take" -> game.take();
            case "lay" -> game.lay(number(told[0]));
            case "nothing" -> game.nothing();
            case "append" -> game.append(told[0].charAt(1));
            case "clear" -> game.clear();
            case "fault" -> game.fault();
            case "play" -> game.play();
            case "why" -> game.why(number(told[0]));
            case "diver" -> game.diver(number(told[0]), number(told[1]));
            case "count" -> game.count(number(told[0]));
            case "chances" -> game.chances(number(told[0]), Boolean.parseBoolean(told[1]), number(told[2]));
            case "homeward" -> game.homeward(number(told[0]));
            case "undo" -> game.undo();
            case "save" -> game.save();
            case "restore" -> game.restore();
            default -> throw new IllegalArgumentException(name);
        };
    }

    private static int number(String told) {
        return Integer.parseInt(told);
    }

    private static void everyCallIsNamed(String page) {
        for (var method : TankDivers.class.getDeclaredMethods()) {
            if (java.lang.reflect.Modifier.isPublic(method.getModifiers())) {
                DUE.so("it names the call " + method.getName(), page.contains("`" + method.getName() + "`"));
            }
        }
    }

    private static void everyTestIsNamed(String page) throws IOException {
        try (Stream<Path> files = Files.list(TESTS)) {
            for (Path file : files.toList()) {
                String name = file.getFileName().toString().replace(".java", "");
                DUE.so("it names the test " + name, !name.endsWith("Test") || page.contains("`" + name + "`"));
            }
        }
    }
}
