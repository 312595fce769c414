import java.io.IOException;
import java.lang.management.ManagementFactory;
import java.lang.reflect.Constructor;
import java.lang.reflect.Field;
import java.lang.reflect.Method;
import java.lang.reflect.Modifier;
import java.nio.file.Files;
import java.nio.file.Path;
import java.util.Set;
import java.util.TreeSet;
import java.util.regex.Matcher;
import java.util.regex.Pattern;

/** The face of the class, and those rules of LANGUAGE.md that a text search or a count can see. */
final class LanguageTest {
    private static final Check CHECK = new Check("LanguageTest");
    private static final Path SOURCE = Path.of("src/main/java/DyeTank.java");

    private static final String[] FACE = {
        "public DyeTank()",
        "public int setUp(int)", "public int set(int,int)", "public int spin(int,int)", "public int spinAll(int,int)",
        "public int pour(int,int,int,int,int)", "public int tick(int)", "public int ring(int,int)",
        "public int dye(int,int,int,int)", "public long colour(int,int)", "public int state(int)",
        "public int marker(int,int)", "public int where(int,int)", "public int path(int,int,int)",
        "public int settles(int,int)", "public int arrives(int,int,int,int)", "public int meet(int,int,int,int)",
        "public int leastEkman(int,int,int)", "public int say(int)", "public int wipe()", "public int fault()",
        "public int carryOut()", "public int save(int)", "public int restore(int)",
        "NO_SUCH=-1", "BAD_VALUE=-2", "BAD_TEXT=-3", "TOO_MANY=-4", "NOT_POSSIBLE=-5", "NONE=-6", "GONE=1000000000",
        "TOP=0", "BOTTOM=1", "SHEAR=0", "WALL=1", "WALL_SPEED=2", "FLOOR=3", "FLOOR_SPEED=4", "EKMAN=5", "MIX=6"};

    private static final String[] RULED_OUT = {"throw", "throws", "try", "catch", "finally", "synchronized", "assert",
        "->", "::", "double", "float", "package", "System\\.(?!arraycopy)", "Exact", "Random", "Thread", "Object",
        "equals", "hashCode", "toString", "HashMap", "protected", "volatile", "static \\{", "NaN", "import (?!java.util.Arrays;)"};

    public static void main(String[] args) throws Exception {
        theFace();
        theClassesInside();
        theWords();
        theRoom();
        CHECK.finish();
    }

    private static void theFace() throws IllegalAccessException {
        Set<String> found = new TreeSet<>();
        for (Constructor<?> constructor : DyeTank.class.getDeclaredConstructors()) {
            found.add(constructor.toString());
        }
        for (Method method : DyeTank.class.getDeclaredMethods()) {
            if (!Modifier.isPrivate(method.getModifiers())) {
                found.add(method.toString().replace("DyeTank.", ""));
            }
        }
        for (Field field : DyeTank.class.getDeclaredFields()) {
            if (!Modifier.isPrivate(field.getModifiers())) {
                CHECK.same("modifiers of " + field.getName(), "public static final int", Modifier.toString(
                        field.getModifiers()) + " " + field.getType());
                found.add(field.getName() + "=" + field.get(null));
            }
        }
        CHECK.same("the face", new TreeSet<>(Set.of(FACE)), found);
        CHECK.same("modifiers of the class", "public final", Modifier.toString(DyeTank.class.getModifiers()));
    }

    private static void theClassesInside() {
        Set<String> face = new TreeSet<>();
        for (Method method : DyeTank.class.getDeclaredMethods()) {
            if (Modifier.isPublic(method.getModifiers())) {
                face.add(method.getName());
            }
        }
        for (Method method : DyeTank.class.getDeclaredMethods()) {
            if (!Modifier.isPublic(method.getModifiers())) {
                CHECK.same("a private " + method.getName() + " with a public name", false, face.contains(method.getName()));
            }
        }
        CHECK.same("at most twelve classes", true, DyeTank.class.getDeclaredClasses().length < 12);
        for (Class<?> inside : DyeTank.class.getDeclaredClasses()) {
            CHECK.same(inside + " is static", true, Modifier.isStatic(inside.getModifiers()));
            CHECK.same(inside + " is not public", false, Modifier.isPublic(inside.getModifiers()));
            CHECK.same(inside + " has few fields", true, inside.getDeclaredFields().length <= 20);
            for (Method method : inside.getDeclaredMethods()) {
                CHECK.same(method + " has a public name", false, face.contains(method.getName()));
                CHECK.same(method + " has few parameters", true, method.getParameterCount() <= 7);
            }
        }
    }

    private static void theWords() throws IOException {
        String code = Files.readString(SOURCE).replaceAll("(?s)/\\*.*?\\*/", "").replaceAll("//[^\n]*", "");
        for (String word : RULED_OUT) {
            String pattern = Character.isLetter(word.charAt(0)) ? "\\b" + word : word;
            Matcher matcher = Pattern.compile(Character.isLetter(word.charAt(word.length() - 1))
                    ? pattern + "\\b" : pattern).matcher(code);
            CHECK.same("the code holds " + word, false, matcher.find());
        }
        CHECK.same("the code holds a sign beyond 126", false, Pattern.compile("[^\n -~]").matcher(code).find());
    }

    /** All calls of a run share one room: no call may make anything. */
    private static void theRoom() {
        com.sun.management.ThreadMXBean threads =
                (com.sun.management.ThreadMXBean) ManagementFactory.getThreadMXBean();
        DyeTank x = new DyeTank();
        long thread = Thread.currentThread().getId();
        everyCall(x);
        long before = threads.getThreadAllocatedBytes(thread);
        for (int times = 0; times < 10; times++) {
            everyCall(x);
        }
        long made = threads.getThreadAllocatedBytes(thread) - before;
        CHECK.same("bytes made by calls: " + made + ", few", true, made < 20000);
    }

    private static void everyCall(DyeTank x) {
        x.setUp(12);
        x.set(DyeTank.MIX, 500);
        x.spin(3, 200);
        x.spinAll(-100, 900);
        x.pour(1, 1, 11, 1, 1000000);
        x.marker(500, 0);
        x.marker(700, 0);
        x.tick(60);
        x.settles(0, 1000);
        x.arrives(1, 0, 1000, 500);
        x.meet(0, 1, 0, 1000);
        x.leastEkman(1, 0, 50);
        x.say('t');
        x.say('1');
        x.fault();
        x.carryOut();
        x.wipe();
        x.save(0);
        x.restore(0);
        for (int what = 0; what < 13; what++) {
            x.state(what);
            x.ring(0, what);
            x.colour(1, what);
            x.where(0, what);
            x.path(0, what, 0);
            x.dye(1, 1, 1, what);
        }
    }
}
