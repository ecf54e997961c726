import java.io.IOException;
import java.lang.reflect.Method;
import java.lang.reflect.Modifier;
import java.nio.file.Files;
import java.nio.file.Path;
import java.util.TreeSet;
import java.util.regex.Matcher;
import java.util.regex.Pattern;

/** The example in README.md answers what it says, and its table names each call. */
public final class ReadmeTests {
    private static final Pattern EXAMPLE = Pattern.compile("(?s)```java\n(.*?)```");
    private static final Pattern CALL = Pattern.compile("x\\.(\\w+)\\((.*?)\\);\\s*// (?:\"(.*)\"|(-?\\d+)(?::.*)?)");
    private static int passed = 0;
    private static int failed = 0;

    private static void check(String what, boolean holds) {
        if (holds) {
            passed++;
        } else {
            failed++;
            System.out.println("not so: " + what);
        }
    }

    public static void main(String[] args) throws IOException, ReflectiveOperationException {
        String readme = Files.readString(Path.of("README.md"));
        Matcher example = EXAMPLE.matcher(readme);
        check("there is an example", example.find());
        String[] lines = example.group(1).split("\n");
        check("it makes an object first", lines[0].equals("OnePen x = new OnePen();"));
        OnePen x = new OnePen();
        for (int k = 1; k < lines.length; k++) checkLine(x, lines[k]);
        checkTable(readme);
        System.out.println(passed + " passed, " + failed + " failed");
        if (failed != 0) System.exit(1);
    }

    private static void checkLine(OnePen x, String line) throws ReflectiveOperationException {
        Matcher call = CALL.matcher(line);
        check(line + " is a call and tells its answer", call.matches());
        if (!call.matches()) return;
        String[] written = call.group(2).isEmpty() ? new String[0] : call.group(2).split(", ");
        Integer[] numbers = new Integer[written.length];
        for (int k = 0; k < numbers.length; k++) numbers[k] = Integer.decode(written[k]);
        int got = (int) method(call.group(1)).invoke(x, (Object[]) numbers);
        if (call.group(3) != null) {
            check(line + " feeds that text", bytesOf(numbers).replaceAll("\0+$", "").equals(call.group(3)));
        } else {
            check(line + " answered " + got, got == Integer.parseInt(call.group(4)));
        }
    }

    private static Method method(String name) throws NoSuchMethodException {
        for (Method m : OnePen.class.getMethods()) {
            if (m.getDeclaringClass() == OnePen.class && m.getName().equals(name)) return m;
        }
        throw new NoSuchMethodException(name);
    }

    private static String bytesOf(Integer[] numbers) {
        StringBuilder text = new StringBuilder();
        for (int number : numbers) {
            for (int shift = 24; shift >= 0; shift -= 8) text.append((char) (number >> shift & 255));
        }
        return text.toString();
    }

    private static void checkTable(String readme) {
        TreeSet<String> named = new TreeSet<>();
        Matcher row = Pattern.compile("(?m)^\\|.*\\|.*`.*\\|$").matcher(readme);
        while (row.find()) {
            Matcher call = Pattern.compile("`(\\w+)`").matcher(row.group());
            while (call.find()) check(call.group(1) + " is named once", named.add(call.group(1)));
        }
        TreeSet<String> face = new TreeSet<>();
        for (Method m : OnePen.class.getDeclaredMethods()) {
            if (Modifier.isPublic(m.getModifiers())) face.add(m.getName());
        }
        check("the table names " + face + ", here " + named, named.equals(face));
    }
}
