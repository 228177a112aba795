import java.io.IOException;
import java.lang.reflect.InvocationTargetException;
import java.lang.reflect.Method;
import java.lang.reflect.Modifier;
import java.nio.file.Files;
import java.nio.file.Path;
import java.util.Arrays;
import java.util.List;
import java.util.Set;
import java.util.TreeSet;
import java.util.regex.Matcher;
import java.util.regex.Pattern;

/** The calls that README.md shows, made in their order, answer what stands behind them. */
public final class PackagePickReadme {
    private static final String BEGIN = "PackagePick x = new PackagePick();";
    private static final Pattern CALL =
        Pattern.compile("x\\.(\\w+)\\(([^)]*)\\); *// (true|false|-?\\d+|throws \\w+)(:.*)?");

    private static int wrong = 0;

    public static void main(String[] args) throws IOException, IllegalAccessException {
        List<String> lines = Files.readAllLines(Path.of("README.md"));
        Set<String> unused = publicNames();
        runExample(example(lines), unused);
        if (!unused.isEmpty()) {
            fail("it shows no call of " + unused);
        }
        if (!lines.contains(".ci/run")) {
            fail("it does not name the command that runs the tests");
        }
        System.out.println(wrong == 0 ? "README.md is as due" : wrong + " things are wrong in README.md");
        if (wrong != 0) {
            System.exit(1);
        }
    }

    private static List<String> example(List<String> lines) {
        int begin = lines.indexOf(BEGIN);
        int end = begin + 1;
        while (end < lines.size() && !lines.get(end).equals("```")) {
            end++;
        }
        return begin < 0 ? List.of() : lines.subList(begin + 1, end);
    }

    private static Set<String> publicNames() {
        Set<String> names = new TreeSet<>();
        for (Method m : PackagePick.class.getDeclaredMethods()) {
            if (Modifier.isPublic(m.getModifiers())) {
                names.add(m.getName());
            }
        }
        return names;
    }

    private static void runExample(List<String> example, Set<String> unused) throws IllegalAccessException {
        PackagePick x = new PackagePick();
        for (String line : example) {
            Matcher call = CALL.matcher(line);
            if (!call.matches()) {
                fail("a line that is no call with its answer: " + line);
                continue;
            }
            unused.remove(call.group(1));
            String got = answer(x, call.group(1), call.group(2));
            if (!got.equals(call.group(3))) {
                fail(line + " answered " + got);
            }
        }
    }

    private static String answer(PackagePick x, String name, String numbers) throws IllegalAccessException {
        Object[] args = numbers.isEmpty() ? new Object[0]
            : Arrays.stream(numbers.split(", ")).map(Integer::valueOf).toArray();
        for (Method m : PackagePick.class.getDeclaredMethods()) {
            if (m.getName().equals(name) && m.getParameterCount() == args.length) {
                try {
                    return String.valueOf(m.invoke(x, args));
                } catch (InvocationTargetException e) {
                    return "throws " + e.getCause().getClass().getSimpleName();
                }
            }
        }
        return "nothing, as there is no such method";
    }

    private static void fail(String what) {
        wrong++;
        System.out.println("README.md: " + what);
    }
}
