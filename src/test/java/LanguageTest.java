import java.io.IOException;
import java.nio.file.Files;
import java.nio.file.Path;
import java.util.List;
import java.util.regex.Matcher;
import java.util.regex.Pattern;

/** Those rules of ../shared/LANGUAGE.md that the text of the program shows. */
final class LanguageTest {
    private static final Path SOURCE = Path.of("src/main/java/TankDivers.java");
    private static final List<String> FORBIDDEN = List.of("\\bimport\\b", "\\bpackage\\b", "->", "::", "\"",
            "\\bcatch\\b", "\\bthrow\\b", "\\bfinally\\b", "\\bassert\\b", "\\bsynchronized\\b", "\\bSystem\\b",
            "\\bprotected\\b", "\\bvar\\b", "\\bObject\\b", "Exact\\b", "@");

    private LanguageTest() {
    }

    public static void main(String[] args) throws IOException {
        Due due = new Due();
        String whole = Files.readString(SOURCE);
        due.so("the characters are 1 to 127", whole.chars().allMatch(c -> c >= 1 && c <= 127));
        String code = whole.replaceAll("(?s)/\\*.*?\\*/", "").replaceAll("//[^\n]*", "");
        for (String forbidden : FORBIDDEN) {
            due.so("no " + forbidden, !Pattern.compile(forbidden).matcher(code).find());
        }
        Matcher used = Pattern.compile("\\b(Math|Integer|Long|Arrays|String|List)\\.(\\w+)").matcher(code);
        while (used.find()) {
            due.so(used.group() + " is one of the library", List.of("max", "min", "abs").contains(used.group(2)));
        }
        noPrivateMethodLikeAPublicOne(due, code);
        everyStaticFieldIsFinal(due, code);
        due.end();
    }

    private static void noPrivateMethodLikeAPublicOne(Due due, String code) {
        Matcher open = Pattern.compile("(?m)^    public \\w+ (\\w+)\\(").matcher(code);
        while (open.find()) {
            String again = "(?m)^        (private |static )*\\w+ " + open.group(1) + "\\(.*\\{$";
            due.so("no other method " + open.group(1), !Pattern.compile(again).matcher(code).find());
        }
    }

    private static void everyStaticFieldIsFinal(Due due, String code) {
        Matcher field = Pattern.compile("(?m)^.*\\bstatic\\b[^({]*[=;].*$").matcher(code);
        while (field.find()) {
            due.so(field.group().trim() + " is final", field.group().contains("static final"));
        }
    }
}
