import java.io.IOException;
import java.lang.reflect.Constructor;
import java.lang.reflect.Field;
import java.lang.reflect.Method;
import java.lang.reflect.Modifier;
import java.nio.charset.StandardCharsets;
import java.nio.file.Files;
import java.nio.file.Path;
import java.util.ArrayList;
import java.util.Arrays;
import java.util.List;
import java.util.TreeSet;
import java.util.regex.Matcher;
import java.util.regex.Pattern;

/** What of ../shared/LANGUAGE.md a program can look for in OnePen.java. */
public final class LanguageTests {
    private static int passed = 0;
    private static int failed = 0;

    private static void check(String what, boolean holds) {
        if (holds) {
            passed++;
        } else {
            failed++;
            System.out.println("not so: " + what);
        }
    }

    public static void main(String[] args) throws IOException {
        String source = Files.readString(Path.of("src/main/java/OnePen.java"), StandardCharsets.US_ASCII);
        String code = stripped(source);
        check("no package and no import", !has(code, "\\b(package|import)\\b"));
        check("nothing is thrown or caught",
            !has(code, "\\b(throw|throws|try|catch|finally|synchronized|assert|volatile|native)\\b"));
        check("no lambda, no method reference", !has(code, "->|::"));
        check("no library but Math and Integer", !has(code, "\\b(System|Object|Arrays|Thread|Class|Random|Double|Float)\\b"));
        check("no exact functions", !has(code, "\\w+Exact\\b"));
        check("no endless loop", !has(code, "while\\s*\\(\\s*true|for\\s*\\(\\s*;\\s*;"));
        check("no text is joined by +", !has(code, "\"\\s*\\+|\\+\\s*\""));
        checkFace();
        List<Class<?>> classes = new ArrayList<>(Arrays.asList(OnePen.class.getDeclaredClasses()));
        classes.add(OnePen.class);
        check("some twelve classes", classes.size() <= 12);
        for (Class<?> c : classes) checkClass(c);
        checkLengths(source);
        checkRoom();
        System.out.println(passed + " passed, " + failed + " failed");
        if (failed != 0) System.exit(1);
    }

    private static boolean has(String code, String pattern) {
        return Pattern.compile(pattern).matcher(code).find();
    }

    /** Comments go, the insides of texts and signs too. */
    private static String stripped(String source) {
        return source.replaceAll("(?s)/\\*.*?\\*/", "").replaceAll("//[^\n]*", "")
            .replaceAll("\"[^\"\n]*\"", "\"\"").replaceAll("'[^'\n]+'", "'0'");
    }

    private static void checkFace() {
        List<String> face = Arrays.asList("feed5 end1 office0 rule0 paper2 clerk2 sign1 blank1 await1 filling0 change0 undo0 when2 by2 "
            .concat("waits2 plan1 rings0 blanks1 second1 keep1 late0 log3 orders1 look1 seed1 days2 count1 image1 back1").split(" "));
        TreeSet<String> open = new TreeSet<>();
        for (Method m : OnePen.class.getDeclaredMethods()) {
            if (Modifier.isPublic(m.getModifiers())) {
                open.add(m.getName() + m.getParameterCount());
                check(m + " has whole numbers alone", m.getReturnType() == int.class
                    && Arrays.stream(m.getParameterTypes()).allMatch(t -> t == int.class) && !Modifier.isStatic(m.getModifiers()));
            } else {
                check(m + " is private", Modifier.isPrivate(m.getModifiers()) || m.isSynthetic());
            }
        }
        check("the face's methods and no others", open.equals(new TreeSet<>(face)));
        TreeSet<String> fields = new TreeSet<>();
        for (Field f : OnePen.class.getDeclaredFields()) {
            if (!Modifier.isPrivate(f.getModifiers())) fields.add(f.toString());
        }
        check("NONE alone is seen", fields.equals(new TreeSet<>(List.of("public static final int OnePen.NONE"))));
        Constructor<?>[] made = OnePen.class.getDeclaredConstructors();
        check("one constructor, public", made.length == 1 && Modifier.isPublic(made[0].getModifiers()));
        check("the class is public and final", Modifier.isPublic(OnePen.class.getModifiers()) && Modifier.isFinal(OnePen.class.getModifiers()));
        for (Class<?> c : OnePen.class.getDeclaredClasses()) {
            check(c + " is static and not public", Modifier.isStatic(c.getModifiers())
                && !Modifier.isPublic(c.getModifiers()) && !Modifier.isProtected(c.getModifiers()));
            for (Method m : c.getDeclaredMethods()) {
                check(m + " bears no name of the face", face.stream().noneMatch(n -> n.replaceAll("\\d", "").equals(m.getName())));
            }
        }
        for (Method m : OnePen.class.getDeclaredMethods()) {
            check(m + " bears no name of the face", Modifier.isPublic(m.getModifiers())
                || face.stream().noneMatch(n -> n.replaceAll("\\d", "").equals(m.getName())));
        }
    }

    private static void checkClass(Class<?> c) {
        int own = 0;
        for (Field f : c.getDeclaredFields()) {
            if (Modifier.isStatic(f.getModifiers())) {
                check(f + " is final and plain", Modifier.isFinal(f.getModifiers())
                    && List.of(int.class, long.class, boolean.class, char.class, String.class).contains(f.getType()));
            } else {
                own++;
            }
        }
        check(c + " has some twenty fields", own <= 20);
        for (Method m : c.getDeclaredMethods()) {
            check(m + " takes at most seven", m.getParameterCount() <= 7);
        }
    }

    private static void checkLengths(String source) {
        Matcher m = Pattern.compile("(?m)^( {4}| {8})[^ *}/][^;=]*\\) \\{\n(?s:.*?)\n\\1\\}$").matcher(source);
        int methods = 0;
        while (m.find()) {
            methods++;
            check("short: " + m.group().split("\n")[0].trim(), m.group().split("\n").length <= 60);
        }
        check("the methods were found", methods > 100);
    }

    /** All calls of one run live in one room: no call makes anything. */
    private static void checkRoom() {
        OnePen x = new OnePen();
        calls(x);
        com.sun.management.ThreadMXBean bean =
            (com.sun.management.ThreadMXBean) java.lang.management.ManagementFactory.getThreadMXBean();
        long before = bean.getThreadAllocatedBytes(Thread.currentThread().getId());
        calls(x);
        long made = bean.getThreadAllocatedBytes(Thread.currentThread().getId()) - before;
        check("calls make next to nothing, here " + made + " bytes", made < 20000);
    }

    private static void calls(OnePen x) {
        String office = "office 10 12 2;clerk 0;clerk 3;paper 0 4 60 5;paper 1 5 20 7;paper 0 3 90 4;paper 0 1 200 3;paper 1 2 222 6;paper 0 9 99 9";
        PromiseTests.tell(x, office);
        x.office();
        PromiseTests.tell(x, "sign worth - way if not [needs > 0] and left * 2 >= begins / 3 or bears < 2");
        x.rule();
        for (int k = 0; k < 9; k++) {
            x.plan(k); x.by(0, k); x.orders(k); x.waits(1, 0); x.look(0); x.late(); x.second(0); x.keep(1); x.days(20, 1);
            x.blanks(0); x.rings(); x.image(0); x.back(0); x.await(1); x.sign(1); x.undo(); x.log(0, 1, 0); x.log(-1, 0, 0);
        }
    }
}
