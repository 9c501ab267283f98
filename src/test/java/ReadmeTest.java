import java.lang.reflect.Method;
import java.lang.reflect.Modifier;
import java.nio.file.DirectoryStream;
import java.nio.file.Files;
import java.nio.file.Path;
import java.util.Arrays;
import java.util.regex.Matcher;
import java.util.regex.Pattern;

/** README.md is right: its example answers what it says, and it names every call and test. */
public final class ReadmeTest extends Checks {
    private static final Pattern CALL =
            Pattern.compile("belt\\.(\\w+)\\(([-\\d, ]*)\\);\\s*// (-?\\d+)");

    public static void main(String[] args) throws Exception {
        String readme = Files.readString(Path.of("README.md"));
        example(readme);
        calls(readme);
        tests(readme);
        end();
    }

    private static void example(String readme) throws Exception {
        BeltArms belt = new BeltArms();
        int calls = 0;
        for (String line : readme.split("\n")) {
            Matcher call = CALL.matcher(line);
            if (line.startsWith("belt.")) {
                due("the form of: " + line, call.find() ? 1 : 0, 1);
                due(line, answer(belt, call.group(1), call.group(2)), Integer.parseInt(call.group(3)));
                calls++;
            }
        }
        due("the example has calls", calls > 0 ? 1 : 0, 1);
    }

    private static int answer(BeltArms belt, String name, String numbers) throws Exception {
        Object[] given = Arrays.stream(numbers.split(", ")).map(Integer::valueOf).toArray();
        Class<?>[] types = new Class<?>[given.length];
        Arrays.fill(types, int.class);
        return (int) BeltArms.class.getMethod(name, types).invoke(belt, given);
    }

    private static void calls(String readme) {
        for (Method m : BeltArms.class.getDeclaredMethods()) {
            if (Modifier.isPublic(m.getModifiers())) {
                due("README.md tells of " + m.getName(), readme.contains("`" + m.getName() + "(") ? 1 : 0, 1);
            }
        }
    }

    private static void tests(String readme) throws Exception {
        Path folder = Path.of("src/test/java");
        try (DirectoryStream<Path> found = Files.newDirectoryStream(folder, "*Test.java")) {
            for (Path test : found) {
                due("README.md tells of " + test, readme.contains("`" + test + "`") ? 1 : 0, 1);
            }
        }
    }
}
