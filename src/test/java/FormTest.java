import java.io.IOException;
import java.lang.reflect.Constructor;
import java.lang.reflect.Field;
import java.lang.reflect.Method;
import java.lang.reflect.Modifier;
import java.nio.charset.StandardCharsets;
import java.nio.file.Files;
import java.nio.file.Path;
import java.util.Arrays;
import java.util.Set;
import java.util.TreeSet;

/** The public face of the document, and the rules of LANGUAGE.md that can be seen from outside. */
public final class FormTest {
    private static final Check CHECK = new Check();
    private static final Path SOURCE = Path.of("src/main/java/EscapeLights.java");
    private static final String[] FACE = {
        "int type(int)", "int clear()", "int load()", "int add(int, int, int, int)", "int drop(int)",
        "int maintain(int, boolean)", "int route(int, int)", "int dropRoute(int)", "int setNeed(int)",
        "int setStock(int, int)", "int light(int, int)", "int swap(int, int)", "int swapAll(int)", "int renew(int)",
        "int pass(int)", "int test(int, boolean)", "int carryOut()", "int routeAt(int, int)", "int lasts(int, int)",
        "int reaching(int, boolean)", "int allowed(int)", "int days()", "int day(int)", "int ifLamp(int, int)",
        "int bestSwap(int)", "int told(int)", "int undo()", "long digest()"};

    public static void main(String[] args) throws IOException {
        constants();
        face();
        classesInside();
        words(Files.readString(SOURCE, StandardCharsets.ISO_8859_1));
        CHECK.end();
    }

    private static void constants() {
        CHECK.due("BAD", EscapeLights.BAD, -1);
        CHECK.due("STATE", EscapeLights.STATE, -2);
        CHECK.due("FULL", EscapeLights.FULL, -3);
        CHECK.due("NONE", EscapeLights.NONE, -9);
        for (String name : new String[] {"BAD", "STATE", "FULL", "NONE"}) {
            try {
                CHECK.due(name + " is public static final", EscapeLights.class.getField(name).getModifiers(),
                    Modifier.PUBLIC | Modifier.STATIC | Modifier.FINAL);
            } catch (NoSuchFieldException e) {
                CHECK.holds(name + " is there", false);
            }
        }
    }

    private static void face() {
        Class<?> c = EscapeLights.class;
        CHECK.due("the class is public and final", c.getModifiers(), Modifier.PUBLIC | Modifier.FINAL);
        Set<String> open = new TreeSet<>();
        for (Method method : c.getDeclaredMethods()) {
            if (!Modifier.isPrivate(method.getModifiers())) {
                CHECK.due(method + " is public and nothing else", method.getModifiers(), Modifier.PUBLIC);
                String types = Arrays.toString(method.getParameterTypes()).replace("[", "(").replace("]", ")");
                open.add(method.getReturnType() + " " + method.getName() + types);
            } else {
                CHECK.holds(method + " bears no public name", !isPublicName(method.getName()));
            }
        }
        CHECK.holds("the face is that of the document, not " + open, open.equals(new TreeSet<>(Arrays.asList(FACE))));
        Constructor<?>[] constructors = c.getDeclaredConstructors();
        CHECK.due("constructors", constructors.length, 1);
        CHECK.due("the constructor is public", constructors[0].getModifiers(), Modifier.PUBLIC);
        CHECK.due("it takes nothing", constructors[0].getParameterCount(), 0);
        CHECK.due("open fields", c.getFields().length, 4);
        fields(c, 4);
    }

    private static void fields(Class<?> c, int open) {
        int own = 0;
        for (Field field : c.getDeclaredFields()) {
            if (Modifier.isStatic(field.getModifiers())) {
                CHECK.holds(field + " is final", Modifier.isFinal(field.getModifiers()));
            } else {
                own++;
            }
            open -= c == EscapeLights.class && !Modifier.isPrivate(field.getModifiers()) ? 1 : 0;
        }
        CHECK.holds("the open fields of " + c, open == 0);
        CHECK.holds("some twenty fields in " + c, own <= 20);
    }

    private static boolean isPublicName(String name) {
        for (String signature : FACE) {
            if (signature.contains(" " + name + "(")) {
                return true;
            }
        }
        return false;
    }

    private static void classesInside() {
        Class<?>[] inside = EscapeLights.class.getDeclaredClasses();
        CHECK.holds("some twelve classes", inside.length < 12);
        for (Class<?> c : inside) {
            int modifiers = c.getModifiers();
            CHECK.holds(c + " is static", Modifier.isStatic(modifiers));
            CHECK.holds(c + " is not open", !Modifier.isPublic(modifiers) && !Modifier.isProtected(modifiers));
            fields(c, 0);
            for (Method method : c.getDeclaredMethods()) {
                CHECK.holds(method + " bears no public name", !isPublicName(method.getName()));
                CHECK.holds(method + " takes few parameters", method.getParameterCount() <= 7);
            }
        }
    }

    private static void words(String source) {
        String code = source.replaceAll("(?s)/\\*.*?\\*/", " ").replaceAll("//[^\n]*", " ");
        String[] words = {"package", "import", "throw", "throws", "try", "catch", "finally", "synchronized", "assert",
            "System", "Object", "Thread", "Random", "String", "record", "enum", "hashCode", "equals", "toString"};
        for (String word : words) {
            CHECK.holds("no word " + word, !code.matches("(?s).*\\b" + word + "\\b.*"));
        }
        for (String sign : new String[] {"->", "::", "\"", "@", "\t"}) {
            CHECK.holds("no sign " + sign, !code.contains(sign));
        }
        for (String word : code.split("[^A-Za-z.]+")) {
            if (word.startsWith("Math.")) {
                CHECK.holds("only few of Math, not " + word, word.matches("Math\\.(min|max|abs|floorMod)"));
            }
        }
    }
}
