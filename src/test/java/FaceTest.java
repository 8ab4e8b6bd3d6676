import java.io.IOException;
import java.lang.reflect.Constructor;
import java.lang.reflect.Field;
import java.lang.reflect.Method;
import java.lang.reflect.Modifier;
import java.nio.file.Files;
import java.nio.file.Path;
import java.util.ArrayList;
import java.util.List;
import java.util.Set;
import java.util.TreeSet;

/** The public face of the class, and what of LANGUAGE.md can be seen from its members and its words. */
public final class FaceTest {
    private static final String[] METHODS = {
        "int letter(int)", "int argument()", "int call(int,int)", "int callOn(int)", "int when(int)", "int end()",
        "int anchor(int)", "int link(int,int)", "int redirect(int)", "int edit(int,int)", "int undo(int,int)",
        "boolean approve(int,int)", "int lock(int,int,int)", "int setRank(int,int)", "int version(int)",
        "int rankOf(int)", "int force(int)", "int reaches(int)", "int extent(int)", "int items(int,int)",
        "int sortAt(int,int,int)", "int itemAt(int,int,int)", "int itemAnew(int,int,int)", "int sourceAt(int,int,int)",
        "int standsFor(int)", "int links(int)", "int broken(int)", "int firstBroken(int)", "int linkedFrom(int)",
        "int breaches(int)", "int breached()"};

    private static final Check CHECK = new Check();

    public static void main(String[] arguments) throws IOException {
        constants();
        members();
        namesOfPrivateMethods();
        staticFields();
        words();
        CHECK.end("FaceTest");
    }

    private static void constants() {
        CHECK.is(-1, MacroWiki.NONE, "NONE");
        CHECK.is(-2, MacroWiki.LOCKED, "LOCKED");
        CHECK.is(-3, MacroWiki.RING, "RING");
        CHECK.is(-4, MacroWiki.DEEP, "DEEP");
        CHECK.is(-5, MacroWiki.LONG, "LONG");
        CHECK.is(-6, MacroWiki.REACH, "REACH");
        CHECK.is(0, MacroWiki.LETTER, "LETTER");
        CHECK.is(1, MacroWiki.ANCHOR, "ANCHOR");
        CHECK.is(2, MacroWiki.LINK, "LINK");
    }

    private static void members() {
        CHECK.is(true, Modifier.isPublic(MacroWiki.class.getModifiers()), "the class is public");
        CHECK.is(true, Modifier.isFinal(MacroWiki.class.getModifiers()), "the class is final");
        Set<String> open = new TreeSet<>();
        for (Method method : MacroWiki.class.getDeclaredMethods()) {
            if (!Modifier.isPrivate(method.getModifiers()) && !method.isSynthetic()) {
                open.add(signature(method));
            }
        }
        CHECK.is(true, open.equals(new TreeSet<>(List.of(METHODS))), "the open methods: " + open);
        int openFields = 0;
        for (Field field : MacroWiki.class.getDeclaredFields()) {
            openFields += Modifier.isPrivate(field.getModifiers()) ? 0 : 1;
        }
        CHECK.is(9, openFields, "the number of open fields");
        Constructor<?>[] constructors = MacroWiki.class.getDeclaredConstructors();
        CHECK.is(1, constructors.length, "the number of constructors");
        CHECK.is(0, constructors[0].getParameterCount(), "the parameters of the constructor");
        CHECK.is(true, Modifier.isPublic(constructors[0].getModifiers()), "the constructor is public");
    }

    private static String signature(Method method) {
        List<String> parameters = new ArrayList<>();
        for (Class<?> parameter : method.getParameterTypes()) {
            parameters.add(parameter.getName());
        }
        return method.getReturnType().getName() + " " + method.getName() + "(" + String.join(",", parameters) + ")";
    }

    private static void namesOfPrivateMethods() {
        Set<String> open = new TreeSet<>();
        for (String method : METHODS) {
            open.add(method.substring(method.indexOf(' ') + 1, method.indexOf('(')));
        }
        for (Method method : MacroWiki.class.getDeclaredMethods()) {
            if (Modifier.isPrivate(method.getModifiers())) {
                CHECK.is(false, open.contains(method.getName()), "private, with a public name: " + method.getName());
            }
        }
        for (Class<?> inner : MacroWiki.class.getDeclaredClasses()) {
            for (Method method : inner.getDeclaredMethods()) {
                CHECK.is(false, open.contains(method.getName()), "inner, with a public name: " + method.getName());
            }
        }
    }

    private static void staticFields() {
        List<Class<?>> classes = new ArrayList<>(List.of(MacroWiki.class.getDeclaredClasses()));
        CHECK.is(true, classes.size() <= 12, "at most twelve classes");
        classes.add(MacroWiki.class);
        for (Class<?> each : classes) {
            for (Field field : each.getDeclaredFields()) {
                int modifiers = field.getModifiers();
                CHECK.is(true, !Modifier.isStatic(modifiers) || Modifier.isFinal(modifiers), "final: " + field);
            }
        }
    }

    private static void words() throws IOException {
        String source = Files.readString(Path.of("src/main/java/MacroWiki.java"));
        String[] banned = {"->", "::", "finally", "synchronized", "assert ", "catch", "static {", "Exact(", "package ",
            "toString", "hashCode", ".equals(", "extends RuntimeException", "import java.util.*", "@"};
        for (String word : banned) {
            CHECK.is(false, source.contains(word), "the class's source has '" + word + "'");
        }
        for (char sign : source.toCharArray()) {
            if (sign > 126) {
                CHECK.tell("the class's source has the sign " + (int) sign);
            }
        }
        for (String line : source.split("\n")) {
            if (line.startsWith("import ")) {
                CHECK.is(true, line.equals("import java.util.NoSuchElementException;"), line);
            }
        }
    }
}
