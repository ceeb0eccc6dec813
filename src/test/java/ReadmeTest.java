import java.lang.reflect.Method;
import java.nio.file.Files;
import java.nio.file.Path;
import java.util.regex.Matcher;
import java.util.regex.Pattern;

/** The calls that README.md shows answer what it says. */
public final class ReadmeTest {
    private static final Pattern MADE = Pattern.compile("TrainGuard guard = new TrainGuard\\((.+)\\);");
    private static final Pattern ASKED = Pattern.compile("guard\\.(\\w+)\\((.*)\\); +// ([\\w-]+): .+");
    private static final Check CHECK = new Check("ReadmeTest");

    private static TrainGuard guard;
    private static int made;
    private static int asked;

    public static void main(String[] args) throws Exception {
        boolean inCode = false;
        for (String line : Files.readAllLines(Path.of("README.md"))) {
            if (line.startsWith("```")) {
                inCode = line.equals("```java");
            } else if (inCode) {
                follow(line);
            }
        }
        CHECK.due("there are examples", true, made > 0 && asked > made);
        CHECK.end();
    }

    private static void follow(String line) throws Exception {
        Matcher making = MADE.matcher(line);
        Matcher asking = ASKED.matcher(line);
        if (making.matches()) {
            int[] numbers = numbersOf(making.group(1));
            guard = new TrainGuard(numbers[0], numbers[1], numbers[2]);
            made++;
        } else if (asking.matches() && guard != null) {
            String got = String.valueOf(answer(asking.group(1), numbersOf(asking.group(2))));
            CHECK.due(line + " answered " + got + "; as it says", true, got.equals(asking.group(3)));
            asked++;
        } else {
            CHECK.due(line + " can be followed", true, false);
        }
    }

    private static int[] numbersOf(String listed) {
        if (listed.isEmpty()) {
            return new int[0];
        }
        String[] parts = listed.split(", ");
        int[] numbers = new int[parts.length];
        for (int i = 0; i < parts.length; i++) {
            numbers[i] = Integer.parseInt(parts[i]);
        }
        return numbers;
    }

    private static Object answer(String name, int[] numbers) throws Exception {
        Class<?>[] types = new Class<?>[numbers.length];
        Object[] values = new Object[numbers.length];
        for (int i = 0; i < numbers.length; i++) {
            types[i] = int.class;
            values[i] = numbers[i];
        }
        Method method = TrainGuard.class.getMethod(name, types);
        return method.invoke(guard, values);
    }
}
