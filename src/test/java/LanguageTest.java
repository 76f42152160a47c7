import java.io.IOException;
import java.lang.reflect.Field;
import java.lang.reflect.Method;
import java.lang.reflect.Modifier;
import java.nio.file.Files;
import java.nio.file.Path;
import java.util.Arrays;
import java.util.List;
import java.util.TreeSet;
import java.util.regex.Matcher;
import java.util.regex.Pattern;

/** The face of the class, and those rules of ../shared/LANGUAGE.md that can be seen from outside. */
public final class LanguageTest {
    private static final List<String> FACE = List.of("set(2)", "setNight(2)", "putIn(3)", "takeOut(1)",
            "turnTo(1)", "stock(2)", "boat(3)", "readPlan(0)", "pass(1)", "type(1)", "clearText(0)",
            "undo(0)", "keep(0)", "restore(0)", "lamp(2)", "wheel(1)", "tiredIn(1)", "darkIn(0)",
            "ranked(1)", "planned(2)", "event(2)", "count(1)", "setting(1)");
    private static final List<String> CONSTANTS = List.of("UNKNOWN", "BAD_VALUE", "FULL", "NOT_POSSIBLE",
            "NONE");

    private static void theFaceAlone() {
        TreeSet<String> methods = new TreeSet<>();
        for (Method method : LampChanger.class.getDeclaredMethods()) {
            if (!Modifier.isPrivate(method.getModifiers())) {
                Due.holds(method + " is public", Modifier.isPublic(method.getModifiers()));
                Due.holds(method + " is not static", !Modifier.isStatic(method.getModifiers()));
                Due.holds(method + " answers an int", method.getReturnType() == int.class);
                methods.add(method.getName() + "(" + method.getParameterCount() + ")");
            }
        }
        Due.holds("the methods are those of the face", methods.equals(new TreeSet<>(FACE)));
        TreeSet<String> fields = new TreeSet<>();
        for (Field field : LampChanger.class.getDeclaredFields()) {
            if (!Modifier.isPrivate(field.getModifiers())) {
                fields.add(field.getName());
            }
        }
        Due.holds("the constants are those of the face", fields.equals(new TreeSet<>(CONSTANTS)));
        Due.due("constructors", LampChanger.class.getDeclaredConstructors().length, 1);
        int modifiers = LampChanger.class.getModifiers();
        Due.holds("public and final", Modifier.isPublic(modifiers) && Modifier.isFinal(modifiers));
    }

    private static void theConstants() {
        Due.due("UNKNOWN", LampChanger.UNKNOWN, -1);
        Due.due("BAD_VALUE", LampChanger.BAD_VALUE, -2);
        Due.due("FULL", LampChanger.FULL, -3);
        Due.due("NOT_POSSIBLE", LampChanger.NOT_POSSIBLE, -4);
        Due.due("NONE", LampChanger.NONE, -5);
    }

    private static void aClassInside(Class<?> inside) {
        int modifiers = inside.getModifiers();
        String name = inside.getSimpleName();
        Due.holds(name + " is static", Modifier.isStatic(modifiers));
        Due.holds(name + " is not public", !Modifier.isPublic(modifiers) && !Modifier.isProtected(modifiers));
        for (Method method : inside.getDeclaredMethods()) {
            boolean named = FACE.stream().anyMatch(f -> f.startsWith(method.getName() + "("));
            Due.holds(name + "." + method.getName() + " has a name of its own", !named);
            Due.holds(name + "." + method.getName() + " has few parameters", method.getParameterCount() <= 7);
        }
        long own = Arrays.stream(inside.getDeclaredFields())
                .filter(f -> !Modifier.isStatic(f.getModifiers())).count();
        Due.holds(name + " has few fields", own <= 20);
    }

    private static void theClassesInside() {
        Class<?>[] insides = LampChanger.class.getDeclaredClasses();
        Due.holds("few classes", insides.length < 12);
        for (Class<?> inside : insides) {
            aClassInside(inside);
            for (Field field : inside.getDeclaredFields()) {
                int modifiers = field.getModifiers();
                Due.holds(field + " is final if static",
                        !Modifier.isStatic(modifiers) || Modifier.isFinal(modifiers));
            }
        }
    }

    private static void noWord(String source, String pattern) {
        Matcher matcher = Pattern.compile(pattern).matcher(source);
        Due.holds("no " + pattern + " in the source", !matcher.find());
    }

    private static void theSource(String path) throws IOException {
        String whole = Files.readString(Path.of(path));
        String code = whole.replaceAll("(?s)/\\*.*?\\*/", "").replaceAll("//[^\\n]*", "");
        String[] words = {"throw", "throws", "try", "catch", "finally", "synchronized", "assert", "import",
            "package", "float", "double", "protected", "volatile", "transient", "native"};
        for (String word : words) {
            noWord(code, "\\b" + word + "\\b");
        }
        noWord(code, "->");
        noWord(code, "::");
        noWord(code, "Exact\\(");
        noWord(code, "\"");
        noWord(code, "\\bstatic\\s*\\{");
        noWord(whole, "[^\\x00-\\x7f]");
        Due.due("public classes", code.split("public final class").length - 1, 1);
    }

    /** No call makes an object, so that all calls of a run find room: constructors alone do. */
    private static void constructorsAloneMakeObjects(String path) throws IOException {
        boolean inConstructor = false;
        int line = 0;
        for (String text : Files.readAllLines(Path.of(path))) {
            line++;
            if (text.matches("    (    )?[a-zA-Z].*\\) \\{")) {
                inConstructor = text.matches(" +(public )?[A-Z][a-zA-Z]*\\(.*\\) \\{");
            }
            boolean makes = text.matches(".*[^a-zA-Z]new [A-Za-z].*") && !text.matches(" *(/\\*|\\*|//).*");
            Due.holds("line " + line + " makes no object outside a constructor", !makes || inConstructor);
        }
    }

    /** Rule 12: what a constructor calls makes another object, or looks into a row of the class. */
    private static void constructorsHandOutNothing(String path) throws IOException {
        boolean inConstructor = false;
        int constructors = 0;
        int line = 0;
        for (String text : Files.readAllLines(Path.of(path))) {
            line++;
            if (text.matches(" +(public )?[A-Z][a-zA-Z]*\\(.*\\) \\{")) {
                inConstructor = true;
                constructors++;
            } else if (text.matches("    (    )?\\}")) {
                inConstructor = false;
            } else if (inConstructor) {
                String calls = text.replaceAll("new [A-Z]\\w*\\(\\)|Rows\\.at\\([A-Z_]+, \\w+\\)|for \\(", "");
                Due.holds("line " + line + " hands out nothing", !calls.matches(".*\\w\\(.*|.*\\bthis\\b.*"));
            }
        }
        Due.due("constructors looked at", constructors, 8);
    }

    private static void theLibraryThatIsListed(String path) throws IOException {
        String whole = Files.readString(Path.of(path));
        Matcher used = Pattern.compile("\\b(Math|System|Arrays|Integer|Long|String|List)\\.(\\w+)").matcher(whole);
        List<String> listed = List.of("Math.max", "Math.min", "Math.abs", "Math.floorDiv", "Math.floorMod",
                "System.arraycopy", "Arrays.fill", "Arrays.copyOf", "Arrays.copyOfRange");
        while (used.find()) {
            Due.holds(used.group() + " is in the list", listed.contains(used.group()));
        }
    }

    private static void methodsAreShort(String path) throws IOException {
        int begun = 0;
        int line = 0;
        for (String text : Files.readAllLines(Path.of(path))) {
            line++;
            if (text.matches("    (    )?[a-zA-Z].*\\) \\{")) {
                begun = line;
            }
            if (text.matches("    (    )?\\}")) {
                Due.holds("the method that ends in line " + line + " is short", begun == 0 || line - begun <= 60);
                begun = 0;
            }
        }
    }

    public static void main(String[] args) throws IOException {
        theFaceAlone();
        theConstants();
        theClassesInside();
        theSource(args[0]);
        constructorsAloneMakeObjects(args[0]);
        constructorsHandOutNothing(args[0]);
        theLibraryThatIsListed(args[0]);
        methodsAreShort(args[0]);
        Due.end();
    }
}
