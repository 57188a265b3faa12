import java.io.IOException;
import java.nio.file.Files;
import java.nio.file.Path;
import java.util.regex.Matcher;
import java.util.regex.Pattern;

/**
 * What of ../shared/LANGUAGE.md can be seen from the program's text. Its first argument is the
 * program's file.
 */
public final class LanguageTest {
    private static final String[] FORBIDDEN = {
        "\\bimport\\b", "\\bpackage\\b", "->", "::", "\\bfinally\\b", "\\bsynchronized\\b", "\\bassert\\b",
        "\\bcatch\\b", "\\bvolatile\\b", "\\bprotected\\b", "\\bnative\\b", "\\bObject\\b",
        "\\bSystem\\b", "\\bThread\\b", "\\bRandom\\b", "\\bDouble\\b", "Exact\\b", "\\btoString\\b",
        "\\bequals\\b", "\\bhashCode\\b", "\\bextends\\b", "\\bwhile\\b", "\\binstanceof\\b",
    };
    private static final Check CHECK = new Check();

    private LanguageTest() {
    }

    public static void main(String[] args) throws IOException {
        String text = Files.readString(Path.of(args[0]));
        for (int i = 0; i < text.length(); i++) {
            if (text.charAt(i) > 126) {
                CHECK.same("a plain sign", text.charAt(i), "the sign at " + i);
            }
        }
        String code = text.replaceAll("(?s)/\\*.*?\\*/", "").replaceAll("//[^\n]*", "").replaceAll("\"[^\"\n]*\"", "\"\"");
        for (String word : FORBIDDEN) {
            CHECK.same(0, count(word, code), "the word " + word);
        }
        thrownAre(code);
        CHECK.same(true, count("\\bclass\\b", code) <= 12, "at most twelve classes");
        methodLines(code);
        CHECK.same(0, count("\\bstatic\\s*\\{", code), "static blocks");
        CHECK.same(0, count("\\bstatic (?!final)[\\w\\[\\] ]+(=|;)", code), "static fields that are not final");
        CHECK.same(0, count("\\w \\w+\\((\\w[\\w\\[\\]]* \\w+,\\s*){7}", code), "methods with more than seven parameters");
        CHECK.end("LanguageTest");
    }

    private static int count(String word, String code) {
        Matcher matcher = Pattern.compile(word).matcher(code);
        int count = 0;
        while (matcher.find()) {
            count++;
        }
        return count;
    }

    private static void thrownAre(String code) {
        String named = "\\bthrow new (IllegalState|IllegalArgument|IndexOutOfBounds)Exception\\(\"\"\\);";
        CHECK.same(count("\\bthrow\\b", code), count(named, code), "exceptions that the document names");
    }

    private static void methodLines(String code) {
        Matcher matcher = Pattern.compile("(?m)^( {4}| {8})(?!new)[a-z][\\w\\[\\] ]*\\(.*?^\\1}", Pattern.DOTALL).matcher(code);
        while (matcher.find()) {
            long lines = matcher.group().lines().count();
            CHECK.same(true, lines <= 60, "at most sixty lines, not " + lines + ": " + matcher.group().lines().findFirst().get());
        }
    }
}
