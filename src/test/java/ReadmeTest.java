import java.io.IOException;
import java.lang.reflect.Field;
import java.lang.reflect.Method;
import java.lang.reflect.Modifier;
import java.nio.file.Files;
import java.nio.file.Path;

/** README.md: its example answers what it says, and it tells of every call and constant. Runs in the project's directory. */
public final class ReadmeTest {
    public static void main(String[] args) throws IOException {
        Checks c = new Checks();
        String readme = Files.readString(Path.of("README.md"));
        example(c, readme);
        everyCall(c, readme);
        everyConstant(c, readme);
        c.holds("for how many calls an object is used", readme.contains("at most 512 calls"));
        c.holds("how the tests are run", readme.contains(".ci/run"));
        c.end();
    }

    private static void example(Checks c, String readme) {
        MailRooms x = new MailRooms();
        says(c, readme, "x.make(8, 2);", x.make(8, 2));
        says(c, readme, "x.make(5, 0);", x.make(5, 0));
        says(c, readme, "x.lay(0, 0, 1);", x.lay(0, 0, 1));
        says(c, readme, "x.desk(0, 8, 3, true);", x.desk(0, 8, 3, true));
        says(c, readme, "x.desk(1, 13, 2, false);", x.desk(1, 13, 2, false));
        says(c, readme, "x.hand(0, 0);", x.hand(0, 0));
        says(c, readme, "x.out();", x.out());
        says(c, readme, "x.stamps(1);", x.stamps(1));
        says(c, readme, "x.put(1, 0, 7);", x.put(1, 0, 7));
        says(c, readme, "x.get(1, 0);", x.get(1, 0));
        says(c, readme, "x.refused();", x.refused());
        c.due("calls of the example that are not looked at", calls(readme) - 11, 0);
    }

    /** The example's line for this call goes on with this answer. */
    private static void says(Checks c, String readme, String call, int answer) {
        boolean found = false;
        for (String line : readme.split("\n")) {
            found |= line.startsWith(call) && line.substring(call.length()).strip().startsWith("// " + answer + ":");
        }
        c.holds("the example says that " + call + " answers " + answer, found);
    }

    private static int calls(String readme) {
        int many = 0;
        for (String line : readme.split("\n")) {
            many += line.startsWith("x.") ? 1 : 0;
        }
        return many;
    }

    private static void everyCall(Checks c, String readme) {
        for (Method method : MailRooms.class.getDeclaredMethods()) {
            if (Modifier.isPublic(method.getModifiers())) {
                c.holds("a line of the table for " + method.getName(), readme.contains("| `" + method.getName() + "("));
            }
        }
    }

    private static void everyConstant(Checks c, String readme) {
        for (Field field : MailRooms.class.getDeclaredFields()) {
            if (Modifier.isPublic(field.getModifiers())) {
                c.holds("the constant " + field.getName(), readme.contains("`" + field.getName() + "`"));
            }
        }
    }
}
