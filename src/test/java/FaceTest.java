import java.io.IOException;
import java.lang.reflect.Constructor;
import java.lang.reflect.Field;
import java.lang.reflect.Method;
import java.lang.reflect.Modifier;
import java.nio.file.Files;
import java.nio.file.Path;
import java.util.ArrayList;
import java.util.List;
import java.util.Set;
import java.util.TreeSet;

/** The public face of the class, and what of LANGUAGE.md can be seen from its members and its words. */
public final class FaceTest {
    private static final Check CHECK = new Check();

    public static void main(String[] arguments) throws IOException {
        faceOfTheDocument();
        constants();
        members();
        namesOfPrivateMethods();
        staticFields();
        words();
        CHECK.end("FaceTest");
    }

    /** What the tests take for the face is that of the document, line by line. */
    private static void faceOfTheDocument() throws IOException {
        List<String> due = new ArrayList<>(Face.CONSTANTS);
        due.add(Face.CONSTRUCTOR);
        due.addAll(Face.METHODS);
        List<String> document = Face.inDocument();
        CHECK.is(true, document.isEmpty() || document.equals(due), "the document's face is the one that is tested");
    }

    private static void constants() {
        CHECK.is(-1, MacroWiki.NONE, "NONE");
        CHECK.is(-2, MacroWiki.LOCKED, "LOCKED");
        CHECK.is(-3, MacroWiki.RING, "RING");
        CHECK.is(-4, MacroWiki.DEEP, "DEEP");
        CHECK.is(-5, MacroWiki.LONG, "LONG");
        CHECK.is(-6, MacroWiki.REACH, "REACH");
        CHECK.is(0, MacroWiki.LETTER, "LETTER");
        CHECK.is(1, MacroWiki.ANCHOR, "ANCHOR");
        CHECK.is(2, MacroWiki.LINK, "LINK");
    }

    private static void members() {
        CHECK.is(true, Modifier.isPublic(MacroWiki.class.getModifiers()), "the class is public");
        CHECK.is(true, Modifier.isFinal(MacroWiki.class.getModifiers()), "the class is final");
        Set<String> open = new TreeSet<>();
        for (Method method : MacroWiki.class.getDeclaredMethods()) {
            int modifiers = method.getModifiers();
            if (!Modifier.isPrivate(modifiers) && !method.isSynthetic()) {
                open.add(signature(method));
                boolean plain = Modifier.isPublic(modifiers) && !Modifier.isStatic(modifiers);
                CHECK.is(true, plain, method.getName() + " is public, and asked of an object");
            }
        }
        Set<String> due = new TreeSet<>();
        for (Face.Method method : Face.methods()) {
            due.add(signature(method));
        }
        CHECK.is(31, due.size(), "the number of methods that are due");
        for (String method : due) {
            CHECK.is(true, open.contains(method), "the class has " + method);
        }
        for (String method : open) {
            CHECK.is(true, due.contains(method), "the document has " + method);
        }
        int openFields = 0;
        for (Field field : MacroWiki.class.getDeclaredFields()) {
            openFields += Modifier.isPrivate(field.getModifiers()) ? 0 : 1;
        }
        CHECK.is(9, openFields, "the number of open fields");
        Constructor<?>[] constructors = MacroWiki.class.getDeclaredConstructors();
        CHECK.is(1, constructors.length, "the number of constructors");
        CHECK.is(0, constructors[0].getParameterCount(), "the parameters of the constructor");
        CHECK.is(true, Modifier.isPublic(constructors[0].getModifiers()), "the constructor is public");
    }

    private static String signature(Method method) {
        List<String> parameters = new ArrayList<>();
        for (Class<?> parameter : method.getParameterTypes()) {
            parameters.add(parameter.getName());
        }
        List<String> exceptions = new ArrayList<>();
        for (Class<?> exception : method.getExceptionTypes()) {
            exceptions.add(exception.getName().replaceFirst("^java\\.lang\\.", ""));
        }
        return method.getReturnType().getName() + " " + method.getName() + parameters + " throws " + exceptions;
    }

    private static String signature(Face.Method method) {
        List<String> parameters = new ArrayList<>();
        for (int i = 0; i < method.parameters().size(); i++) {
            parameters.add("int");
        }
        return method.answer() + " " + method.name() + parameters + " throws " + method.exceptions();
    }

    private static void namesOfPrivateMethods() {
        Set<String> open = new TreeSet<>();
        for (Face.Method method : Face.methods()) {
            open.add(method.name());
        }
        for (Method method : MacroWiki.class.getDeclaredMethods()) {
            if (Modifier.isPrivate(method.getModifiers())) {
                CHECK.is(false, open.contains(method.getName()), "private, with a public name: " + method.getName());
            }
        }
        for (Class<?> inner : MacroWiki.class.getDeclaredClasses()) {
            for (Method method : inner.getDeclaredMethods()) {
                CHECK.is(false, open.contains(method.getName()), "inner, with a public name: " + method.getName());
            }
        }
    }

    private static void staticFields() {
        List<Class<?>> classes = new ArrayList<>(List.of(MacroWiki.class.getDeclaredClasses()));
        CHECK.is(true, classes.size() <= 12, "at most twelve classes");
        classes.add(MacroWiki.class);
        for (Class<?> each : classes) {
            for (Field field : each.getDeclaredFields()) {
                int modifiers = field.getModifiers();
                CHECK.is(true, !Modifier.isStatic(modifiers) || Modifier.isFinal(modifiers), "final: " + field);
            }
        }
    }

    private static void words() throws IOException {
        String source = Files.readString(Path.of("src/main/java/MacroWiki.java"));
        String[] banned = {"->", "::", "finally", "synchronized", "assert ", "catch", "static {", "Exact(", "package ",
            "toString", "hashCode", ".equals(", "extends RuntimeException", "import java.util.*", "@"};
        for (String word : banned) {
            CHECK.is(false, source.contains(word), "the class's source has '" + word + "'");
        }
        for (char sign : source.toCharArray()) {
            if (sign > 126) {
                CHECK.tell("the class's source has the sign " + (int) sign);
            }
        }
        for (String line : source.split("\n")) {
            if (line.startsWith("import ")) {
                CHECK.is(true, line.equals("import java.util.NoSuchElementException;"), line);
            }
        }
    }
}
