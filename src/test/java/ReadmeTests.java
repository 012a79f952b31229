import java.io.IOException;
import java.lang.reflect.Method;
import java.lang.reflect.Modifier;
import java.nio.file.Files;
import java.nio.file.Path;
import java.util.regex.Matcher;
import java.util.regex.Pattern;

/** What README.md tells about the class is true. */
public final class ReadmeTests extends Checks {
    private static final Pattern TOLD_ANSWER =
            Pattern.compile("^tables\\.(.*);  +// (-?\\d+): ", Pattern.MULTILINE);

    private static int made = 0;

    public static void main(String[] args) throws IOException {
        String readme = Files.readString(Path.of("README.md"));
        makeCalls(TOLD_ANSWER.matcher(readme), readme);
        lookForMethods(readme);
        endWith("README.md tells what the class does");
    }

    /** The calls stand here in the order of the page. */
    private static void makeCalls(Matcher told, String readme) {
        SortedTables x = new SortedTables();
        next(told, "insert(0, 50)", x.insert(0, 50));
        next(told, "insert(0, 40)", x.insert(0, 40));
        next(told, "kth(0, 1, false)", x.kth(0, 1, false));
        next(told, "transfer(0, 0, 0)", x.transfer(0, 0, 0));
        next(told, "undo()", x.undo());
        next(told, "clearText()", x.clearText());
        String text = "T010307/0205/09;0406";
        if (!readme.contains("\"" + text + "\"")) {
            fault("the example has another text");
        }
        appendAll(x, text);
        next(told, "errorPosition()", x.errorPosition());
        next(told, "load()", x.load());
        next(told, "count(0, 5)", x.count(0, 5));
        next(told, "walk(0, 5, 1)", x.walk(0, 5, 1));
        next(told, "path(0, 0)", x.path(0, 0));
        next(told, "fillings(0)", x.fillings(0));
        next(told, "runScript(2, 1104251003L)", x.runScript(2, 1104251003L));
        if (told.find()) {
            fault("the example has a call that is not tested: " + told.group(1));
        }
    }

    private static void next(Matcher told, String call, long answer) {
        made++;
        if (!told.find()) {
            fault("the example has no call number " + made + ", " + call);
            return;
        }
        due("call number " + made + " of the example", told.group(1), call);
        due("the example's " + call, answer, Long.parseLong(told.group(2)));
    }

    private static void lookForMethods(String readme) {
        for (Method m : SortedTables.class.getDeclaredMethods()) {
            if (Modifier.isPublic(m.getModifiers()) && !readme.contains("`" + m.getName() + "`")) {
                fault("the page does not name " + m.getName());
            }
        }
    }
}
