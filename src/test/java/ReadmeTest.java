import java.io.IOException;
import java.lang.reflect.Method;
import java.nio.file.Files;
import java.nio.file.Path;
import java.util.regex.Matcher;
import java.util.regex.Pattern;

/** The calls of README.md answer what it says; run in the project's folder. */
public final class ReadmeTest {
    private static final Pattern CALL = Pattern.compile("^x\\.(\\w+)\\((.*)\\); +// (\\S+): ");

    public static void main(String[] args) throws IOException, ReflectiveOperationException {
        ToOneCrumb x = new ToOneCrumb();
        int calls = 0;
        for (String line : Files.readAllLines(Path.of("README.md"))) {
            Matcher told = CALL.matcher(line);
            if (told.find()) {
                calls++;
                String call = told.group(1) + "(" + told.group(2) + ")";
                String due = told.group(3);
                Check.due("README: " + call + " is " + due, answer(x, told.group(1), told.group(2)).equals(due), true);
            }
        }
        Check.due("README: calls with answers", calls, 18);
        Check.finish("ReadmeTest");
    }

    private static String answer(ToOneCrumb x, String name, String told) throws ReflectiveOperationException {
        String[] numbers = told.isEmpty() ? new String[0] : told.split(", ");
        Class<?>[] types = new Class<?>[numbers.length];
        Object[] arguments = new Object[numbers.length];
        for (int i = 0; i < numbers.length; i++) {
            types[i] = int.class;
            arguments[i] = Integer.decode(numbers[i]);
        }
        Method method = ToOneCrumb.class.getMethod(name, types);
        return String.valueOf(method.invoke(x, arguments));
    }
}
