import java.lang.management.ManagementFactory;
import java.lang.reflect.Constructor;
import java.lang.reflect.Field;
import java.lang.reflect.Method;
import java.lang.reflect.Modifier;
import java.nio.file.Files;
import java.nio.file.Path;
import java.util.Arrays;
import java.util.Set;
import java.util.TreeSet;
import java.util.regex.Matcher;
import java.util.regex.Pattern;

/** The face as the document declares it, the rules of LANGUAGE.md that can be looked up, and the room that calls take. */
public final class FormTest {
    private static final String[] FACE = {
        "int holds 2", "int now 1", "int hat 2", "int of 2", "int says 2", "int set 3", "int turn 2", "int as 2",
        "int sessions 1", "int on 3", "int then 2", "int comes 2", "int wise 0", "int errs 1", "int lift 1",
        "int kind 2", "int view 2", "int faith 3", "int swing 0", "int revise 1", "int best 1", "int feed 2",
        "int wipe 0", "int lobby 0", "int sheet 3", "long write 3", "int copy 5", "int lays 1", "int book 2",
        "int read 2", "int image 0", "int undo 0", "int tear 0", "int count 1", "int status 1",
    };

    private static int wrong;

    private static void check(boolean holds, String what) {
        if (!holds) {
            wrong++;
            System.out.println("not so: " + what);
        }
    }

    private static void face() {
        Class<?> c = HatCongress.class;
        check(Modifier.isPublic(c.getModifiers()) && Modifier.isFinal(c.getModifiers()), "public and final");
        Set<String> is = new TreeSet<>();
        Set<String> names = new TreeSet<>();
        for (Method m : c.getDeclaredMethods()) {
            if (!Modifier.isPrivate(m.getModifiers())) {
                check(m.getModifiers() == Modifier.PUBLIC, m + " is public and nothing else");
                is.add(m.getReturnType() + " " + m.getName() + " " + m.getParameterCount());
                names.add(m.getName());
                for (Class<?> type : m.getParameterTypes()) {
                    check(type == int.class || type == long.class && m.getName().equals("write"), m + " takes ints");
                }
            }
        }
        check(is.equals(new TreeSet<>(Arrays.asList(FACE))), "the face is the document's: " + is);
        for (Constructor<?> k : c.getDeclaredConstructors()) {
            check(Modifier.isPublic(k.getModifiers()) && k.getParameterCount() == 0, "one public constructor");
        }
        for (Field f : c.getDeclaredFields()) {
            check(Modifier.isPrivate(f.getModifiers()), f + " is private");
            check(!Modifier.isStatic(f.getModifiers()) || Modifier.isFinal(f.getModifiers()), f + " is final");
        }
        for (Method m : c.getDeclaredMethods()) {
            check(!Modifier.isPrivate(m.getModifiers()) || !names.contains(m.getName()), m + " has a name of its own");
        }
        check(c.getDeclaredClasses().length <= 11, "at most some twelve classes");
        for (Class<?> inside : c.getDeclaredClasses()) {
            check(Modifier.isStatic(inside.getModifiers()), inside + " is static");
            check(inside.getDeclaredFields().length <= 40, inside + " has few fields");
            for (Method m : inside.getDeclaredMethods()) {
                check(!names.contains(m.getName()), m + " has a name of its own");
                check(m.getParameterCount() <= 7, m + " takes at most seven");
            }
        }
    }

    private static void source() throws Exception {
        String text = Files.readString(Path.of("src/main/java/HatCongress.java"));
        check(text.chars().allMatch(c -> c < 128), "signs 1 to 127");
        String code = text.replaceAll("(?s)/\\*.*?\\*/", "").replaceAll("//[^\n]*", "").replaceAll("\"[^\"\n]*\"", "\"\"");
        for (String word : new String[] {"throw", "throws", "try", "catch", "finally", "synchronized", "assert", "package",
            "volatile", "transient", "native", "strictfp", "var", "yield", "protected", "Object", "Random", "System\\.(?!arraycopy)",
            "Thread", "hashCode", "toString", "float", "double", "import (?!java\\.util\\.Arrays;)", "\\w+Exact"}) {
            Matcher m = Pattern.compile("\\b" + word).matcher(code);
            check(!m.find() || word.matches("\\w+") && !Pattern.compile("\\b" + word + "\\b").matcher(code).find(), "no " + word);
        }
        check(!code.contains("->") && !code.contains("::"), "no lambda, no method reference");
        Matcher static_ = Pattern.compile("static \\{").matcher(code);
        check(!static_.find(), "no static block");
    }

    /** All calls of a run live in one room: the rows are made with the object, and calls make none. */
    private static void room() {
        com.sun.management.ThreadMXBean bean = (com.sun.management.ThreadMXBean) ManagementFactory.getThreadMXBean();
        long id = Thread.currentThread().getId();
        HatCongress x = new HatCongress();
        everyCall(x);
        long before = bean.getThreadAllocatedBytes(id);
        for (int i = 0; i < 50; i++) {
            everyCall(x);
        }
        long made = bean.getThreadAllocatedBytes(id) - before;
        check(made < 20000, "calls make no objects: " + made + " bytes");
    }

    private static void everyCall(HatCongress x) {
        x.image();
        for (int k = 0; k < 6; k++) {
            x.hat(k, 37 * k);
        }
        for (int what = -1; what < 9; what++) {
            x.now(what);
            x.of(0, what);
            x.set(0, what, 1);
            x.count(what);
            x.status(what);
        }
        x.holds(0, 99);
        x.says(0, 0);
        x.turn(0, 1);
        x.as(0, 2);
        x.sessions(100);
        x.on(1, 200, 1);
        x.then(200, 1);
        x.comes(0, 1);
        x.wise();
        x.errs(1);
        x.lift(60);
        x.kind(1, 60);
        x.view(1, 32);
        x.faith(1, 60, 9999);
        x.swing();
        x.revise(60);
        x.best(200);
        x.feed('h' << 24 | 'a' << 16 | 't' << 8 | ';', 4);
        x.feed('c' << 24 | 'a' << 16 | 'p' << 8 | ' ', 4);
        x.lobby();
        x.wipe();
        x.sheet(0, 8, 40);
        x.sheet(1, 8, 40);
        x.write(0, 0, 1L);
        x.copy(0, 0, 1, 1, 39);
        x.lays(0);
        x.book(0, 1);
        x.read(0, 1);
        x.undo();
        x.tear();
    }

    public static void main(String[] args) throws Exception {
        face();
        source();
        room();
        System.out.println(wrong == 0 ? "the form is as it must be" : wrong + " faults of form");
        if (wrong != 0) {
            System.exit(1);
        }
    }
}
