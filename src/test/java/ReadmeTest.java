import java.lang.reflect.Method;
import java.lang.reflect.Modifier;
import java.nio.file.Files;
import java.nio.file.Path;
import java.util.regex.Matcher;
import java.util.regex.Pattern;

/** What README.md says of the class: the answers of its example, and that no call is left out. */
public final class ReadmeTest {
    private static final Pattern EXAMPLE = Pattern.compile("(?m)^x\\.(\\w+)\\((.*)\\); +// (-?\\d+)(?: .*)?$");
    private static final Pattern FINDING = Pattern.compile("(?m)^\\| [A-Z]+ \\| (-\\d+) \\| (\\d) \\|$");

    private static int wrong;

    private static void check(boolean holds, String what) {
        if (!holds) {
            wrong++;
            System.out.println("not so: " + what);
        }
    }

    private static Method named(String name) {
        for (Method m : HatCongress.class.getDeclaredMethods()) {
            if (m.getName().equals(name) && Modifier.isPublic(m.getModifiers())) {
                return m;
            }
        }
        return null;
    }

    private static long answer(HatCongress x, Method m, String given) throws Exception {
        String[] texts = given.isEmpty() ? new String[0] : given.split(", *");
        Object[] values = new Object[texts.length];
        for (int i = 0; i < texts.length; i++) {
            long v = Long.decode(texts[i]);
            // Not by ?: , which would make a long of both.
            if (m.getParameterTypes()[i] == long.class) {
                values[i] = v;
            } else {
                values[i] = (int) v;
            }
        }
        return ((Number) m.invoke(x, values)).longValue();
    }

    private static void example(String readme) throws Exception {
        HatCongress x = new HatCongress();
        Matcher line = EXAMPLE.matcher(readme);
        int lines = 0;
        while (line.find()) {
            lines++;
            Method m = named(line.group(1));
            check(m != null, "there is a call " + line.group(1));
            if (m != null) {
                long got = answer(x, m, line.group(2));
                check(got == Long.parseLong(line.group(3)), line.group() + " answered " + got);
            }
        }
        check(lines == readme.split("\nx\\.", -1).length - 1, "each line of the example has its answer: " + lines);
        check(lines > 0, "there is an example");
    }

    private static void calls(String readme) {
        for (Method m : HatCongress.class.getDeclaredMethods()) {
            if (Modifier.isPublic(m.getModifiers())) {
                check(readme.contains("`" + m.getName() + "`"), "README.md names " + m.getName());
            }
        }
    }

    private static void findings(String readme) {
        Matcher row = FINDING.matcher(readme);
        int rows = 0;
        while (row.find()) {
            check(Integer.parseInt(row.group(1)) == -1000000001 - rows, row.group());
            check(Integer.parseInt(row.group(2)) == rows, row.group());
            rows++;
        }
        check(rows == 7, "seven findings: " + rows);
    }

    public static void main(String[] args) throws Exception {
        String readme = Files.readString(Path.of("README.md"));
        example(readme);
        calls(readme);
        findings(readme);
        System.out.println(wrong == 0 ? "README.md is as the class is" : wrong + " faults of README.md");
        if (wrong != 0) {
            System.exit(1);
        }
    }
}
