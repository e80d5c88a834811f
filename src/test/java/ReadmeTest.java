import java.io.IOException;
import java.lang.reflect.Method;
import java.lang.reflect.Modifier;
import java.nio.file.Files;
import java.nio.file.Path;
import java.util.regex.Matcher;
import java.util.regex.Pattern;

/** The example of README.md, call by call, against the answers that are told beside it. */
public final class ReadmeTest {
    private static final Due DUE = new Due("ReadmeTest");
    private static final Pattern CALL = Pattern.compile("hall\\.(\\w+)\\((.*?)\\); +// (-?\\d+):.*");
    private static final String MADE = "TriggerHall hall = new TriggerHall();";

    public static void main(String[] args) throws IOException, ReflectiveOperationException {
        String readme = Files.readString(Path.of("README.md"));
        int from = readme.indexOf("```java\n");
        String example = readme.substring(from + 8, readme.indexOf("```", from + 8));
        TriggerHall hall = null;
        for (String row : example.split("\n")) {
            if (row.equals(MADE)) {
                hall = new TriggerHall();
                continue;
            }
            Matcher call = CALL.matcher(row);
            DUE.holds("a call with its answer: " + row, call.matches());
            if (call.matches()) {
                DUE.is(row, answer(hall, call.group(1), call.group(2)), Integer.parseInt(call.group(3)));
            }
        }
        for (Method method : TriggerHall.class.getDeclaredMethods()) {
            boolean open = Modifier.isPublic(method.getModifiers());
            DUE.holds("named: " + method.getName(), !open || readme.contains("`" + method.getName() + "`"));
        }
        DUE.end();
    }

    private static int answer(TriggerHall hall, String name, String told) throws ReflectiveOperationException {
        String[] numbers = told.isEmpty() ? new String[0] : told.split(", ");
        for (Method method : TriggerHall.class.getDeclaredMethods()) {
            if (!Modifier.isPublic(method.getModifiers()) || !method.getName().equals(name)) continue;
            Object[] given = new Object[numbers.length];
            for (int n = 0; n < given.length; n++) {
                boolean truth = method.getParameterTypes()[n] == boolean.class;
                given[n] = truth ? (Object) Boolean.valueOf(numbers[n]) : Integer.decode(numbers[n]);
            }
            return (int) method.invoke(hall, given);
        }
        throw new IllegalArgumentException(name);
    }
}
