import java.io.IOException;
import java.nio.file.Files;
import java.nio.file.Path;
import java.util.regex.Matcher;
import java.util.regex.Pattern;

/** Those rules of LANGUAGE.md that can be seen in the words of the source. Runs in the project's directory. */
public final class LanguageTest {
    private static final String[] FORBIDDEN = {
        "\\bthrows?\\b", "\\btry\\b", "\\bcatch\\b", "\\bfinally\\b", "\\bsynchronized\\b", "\\bassert\\b",
        "\\bimport\\b", "\\bpackage\\b", "\\bnative\\b", "\\bvolatile\\b", "->", "::", "@", "\\w+Exact\\b",
        "\\bObject\\b", "\\bSystem\\.(?!arraycopy)", "\\bThread\\b", "\\bhashCode\\b", "\\btoString\\b",
        "static\\s*\\{", "\\bprotected\\b",
    };
    private static final String[] FACE = {
        "make", "put", "get", "lay", "at", "is", "stamps", "desk", "change", "hand", "out", "told", "count", "refused",
    };

    public static void main(String[] args) throws IOException {
        Checks c = new Checks();
        String source = Files.readString(Path.of("src/main/java/MailRooms.java"));
        String code = source.replaceAll("(?s)/\\*.*?\\*/", " ").replaceAll("//[^\n]*", " ");
        for (String word : FORBIDDEN) {
            Matcher found = Pattern.compile(word).matcher(code);
            c.holds("no " + word + " in the source", !found.find());
        }
        for (String name : FACE) {
            Matcher declared = Pattern.compile("\\b(int|void|boolean|long|[A-Z]\\w*)\\s+" + name + "\\s*\\(").matcher(code);
            int times = 0;
            while (declared.find()) {
                times++;
            }
            c.due("declarations of " + name, times, 1);
        }
        Matcher classes = Pattern.compile("\\b(class|interface|enum|record)\\s+[A-Z]").matcher(code);
        int count = 0;
        while (classes.find()) {
            count++;
        }
        c.holds("at most twelve classes: " + count, count <= 12);
        c.holds("characters 0 to 255 alone", source.chars().allMatch(ch -> ch <= 255));
        c.end();
    }
}
