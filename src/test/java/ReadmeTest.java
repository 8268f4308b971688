import java.io.IOException;
import java.lang.reflect.InvocationTargetException;
import java.lang.reflect.Method;
import java.lang.reflect.Modifier;
import java.nio.file.Files;
import java.nio.file.Path;
import java.util.Arrays;
import java.util.TreeSet;
import java.util.regex.Matcher;
import java.util.regex.Pattern;

/** What README.md says of the class: its example answers as told, its table has every call. */
public final class ReadmeTest {
    /** Such as "bail.undo(20);   // 14: a remark"; without a remark nothing is answered. */
    private static final Pattern EXAMPLE =
            Pattern.compile("bail\\.(\\w+)\\(([^)]*)\\);(?: +// (throws \\w+|-?\\w+).*)?");
    private static final Pattern CALL = Pattern.compile("`(\\w+)\\(([^)]*)\\)`");
    private static final Check check = new Check("ReadmeTest");

    public static void main(String[] args) throws IOException {
        String readme = Files.readString(Path.of("README.md"));
        check.run(
                () -> theExampleAnswersAsTold(readme),
                () -> theTableHasEveryCall(readme));
    }

    private static void theExampleAnswersAsTold(String readme) {
        check.holds("README.md, How to use it", "the example");
        PageBail bail = new PageBail();
        int calls = 0;
        for (String line : readme.split("\n")) {
            if (!line.startsWith("bail.")) {
                continue;
            }
            Matcher told = EXAMPLE.matcher(line);
            check.due("whether this can be read: " + line, true, told.matches());
            if (told.matches()) {
                String due = told.group(3) == null ? "null" : told.group(3);
                check.due(line, due, answer(bail, told.group(1), told.group(2)));
                calls++;
            }
        }
        check.due("whether there is an example", true, calls > 0);
    }

    private static String answer(PageBail bail, String name, String arguments) {
        Object[] values = Arrays.stream(arguments.split(", *")).filter(word -> !word.isEmpty())
                .map(Integer::valueOf).toArray();
        Class<?>[] types = new Class<?>[values.length];
        Arrays.fill(types, int.class);
        try {
            return String.valueOf(PageBail.class.getMethod(name, types).invoke(bail, values));
        } catch (InvocationTargetException e) {
            return "throws " + e.getCause().getClass().getSimpleName();
        } catch (ReflectiveOperationException e) {
            return e.toString();
        }
    }

    private static void theTableHasEveryCall(String readme) {
        check.holds("README.md, How to use it", "the table");
        TreeSet<String> due = new TreeSet<>();
        for (Method method : PageBail.class.getDeclaredMethods()) {
            if (Modifier.isPublic(method.getModifiers())) {
                due.add(method.getName() + " of " + method.getParameterCount());
            }
        }
        TreeSet<String> told = new TreeSet<>();
        for (String line : readme.split("\n")) {
            Matcher call = CALL.matcher(line.startsWith("| `") ? line : "");
            while (call.find()) {
                int count = call.group(2).isEmpty() ? 0 : call.group(2).split(",").length;
                told.add(call.group(1) + " of " + count);
            }
        }
        check.due("the calls of the table", due, told);
    }
}
