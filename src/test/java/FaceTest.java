import java.io.IOException;
import java.lang.reflect.Constructor;
import java.lang.reflect.Field;
import java.lang.reflect.Method;
import java.lang.reflect.Modifier;
import java.nio.file.Files;
import java.nio.file.Path;
import java.util.ArrayList;
import java.util.List;
import java.util.Set;
import java.util.TreeMap;
import java.util.TreeSet;
import java.util.regex.Matcher;
import java.util.regex.Pattern;

/** The document's public face, and the rules of LANGUAGE.md that can be read off the class and its source. */
public final class FaceTest {
    private static final Path SOURCE = Path.of("src/main/java/RouterNet.java");
    private static final String[] METHODS = {
        "int announce(int,int,int)", "boolean arrived(int,int,int)", "int copy(int)", "int cut(int)",
        "int distance(int,int)", "int drop(int)", "int ended(int,int)", "int go(int)", "int held(int,int)",
        "int lay(int,int,int,int)", "int lose(int,int)", "int mend(int)", "int piece(int,int)", "int route(int,int)",
        "int send(int,int,int,boolean)", "int share(int)", "int take(int,int)", "int waiting(int,int)",
        "int withdraw(int,int)"};
    private static final String CONSTANTS = "{DROPPED=5, ENDED=1, EXPIRED=3, FULL=-2, HERE=-4, MOVING=0, NONE=-3, "
        + "REFUSED=-1, TOO_WIDE=4, UNREACHABLE=2}";
    private static final String[] FORBIDDEN = {"throw", "throws", "try", "catch", "synchronized", "assert", "package",
        "protected", "Object", "Random", "Thread", "hashCode", "toString", "instanceof", "volatile", "native"};
    // Not all that rule 4 allows: a function that is new here is looked up there first.
    private static final Set<String> LIBRARY = Set.of("Arrays.copyOf", "Arrays.copyOfRange", "Arrays.fill", "Math.abs",
        "Math.max", "Math.min", "Long.bitCount", "Integer.bitCount", "System.arraycopy");
    private static final Set<String> CONSTANT_TYPES = Set.of("int", "long", "boolean", "char", "String", "int[]", "long[]",
        "char[]", "byte[]");
    private static final int LONGEST_METHOD = 60;
    private static final int MOST_CLASSES = 12;
    private static final int MOST_FIELDS = 20;

    private static int wrong;

    private static void due(String what, Object got, Object want) {
        if (!want.equals(got)) {
            wrong++;
            System.out.println(what + ": found " + got + ", due is " + want);
        }
    }

    private static String signature(Method method) {
        List<String> types = new ArrayList<>();
        for (Class<?> type : method.getParameterTypes()) {
            types.add(type.getSimpleName());
        }
        return method.getReturnType().getSimpleName() + " " + method.getName() + "(" + String.join(",", types) + ")";
    }

    private static void checkMembers() {
        due("public and final", Modifier.toString(RouterNet.class.getModifiers()), "public final");
        Constructor<?>[] constructors = RouterNet.class.getDeclaredConstructors();
        due("constructors", constructors.length, 1);
        due("constructor", constructors[0].toString(), "public RouterNet(int)");
        Set<String> open = new TreeSet<>();
        Set<String> names = new TreeSet<>();
        for (Method method : RouterNet.class.getDeclaredMethods()) {
            if (!Modifier.isPrivate(method.getModifiers())) {
                open.add(signature(method));
                names.add(method.getName());
                due(method + " is public and not static", Modifier.toString(method.getModifiers()), "public");
            }
        }
        due("public methods", open, new TreeSet<>(List.of(METHODS)));
        checkNames(RouterNet.class, names);
        for (Class<?> inside : RouterNet.class.getDeclaredClasses()) {
            due(inside + " is static", Modifier.isStatic(inside.getModifiers()), true);
            due(inside + " is not public", Modifier.isPublic(inside.getModifiers()), false);
            checkNames(inside, names);
        }
    }

    private static void checkNames(Class<?> type, Set<String> open) {
        for (Method method : type.getDeclaredMethods()) {
            due(method + " takes at most 7", method.getParameterCount() <= 7, true);
            boolean apart = Modifier.isPublic(method.getModifiers()) || !open.contains(method.getName());
            due(method + " bears a name of its own", apart, true);
        }
    }

    private static void checkConstants() throws IllegalAccessException {
        TreeMap<String, Integer> constants = new TreeMap<>();
        for (Field field : RouterNet.class.getDeclaredFields()) {
            int modifiers = field.getModifiers();
            if (!Modifier.isPrivate(modifiers)) {
                due(field + " is a constant", Modifier.toString(modifiers), "public static final");
                constants.put(field.getName(), field.getInt(null));
            }
        }
        due("constants", constants.toString(), CONSTANTS);
    }

    private static void checkClasses() {
        List<Class<?>> classes = new ArrayList<>(List.of(RouterNet.class.getDeclaredClasses()));
        classes.add(RouterNet.class);
        due("at most " + MOST_CLASSES + " classes", classes.size() <= MOST_CLASSES, true);
        for (Class<?> type : classes) {
            int fields = 0;
            for (Field field : type.getDeclaredFields()) {
                if (Modifier.isStatic(field.getModifiers())) {
                    due(field + " is final", Modifier.isFinal(field.getModifiers()), true);
                    due(field + " is a constant", CONSTANT_TYPES.contains(field.getType().getSimpleName()), true);
                } else {
                    fields++;
                }
            }
            due(type + " has at most " + MOST_FIELDS + " fields", fields <= MOST_FIELDS, true);
        }
    }

    private static void checkLibrary(String code) {
        Matcher calls = Pattern.compile("\\b(Arrays|Math|Long|Integer|System|String|StringBuilder|List)\\.(\\w+)").matcher(code);
        while (calls.find()) {
            due("the library's " + calls.group(), LIBRARY.contains(calls.group()), true);
        }
    }

    private static void checkWords(String code) {
        for (String word : FORBIDDEN) {
            due("the word " + word, Pattern.compile("\\b" + word + "\\b").matcher(code).find(), false);
        }
        due("a lambda", code.contains("->"), false);
        due("a method reference", code.contains("::"), false);
        Matcher imports = Pattern.compile("import ([^;]*);").matcher(code);
        while (imports.find()) {
            boolean allowed = Set.of("java.util.Arrays", "java.util.ArrayList", "java.util.List").contains(imports.group(1));
            due("import " + imports.group(1), allowed, true);
        }
    }

    private static void checkLengths(String source) {
        int start = 0;
        int number = 0;
        for (String line : source.split("\n")) {
            number++;
            if (line.matches(" {4}( {4})?\\S.*\\) \\{")) {
                start = number;
            }
            if (line.matches(" {4}( {4})?\\}")) {
                due("the method that ends at line " + number + " is short", number - start <= LONGEST_METHOD, true);
                start = number;
            }
        }
    }

    public static void main(String[] args) throws IOException, IllegalAccessException {
        String source = Files.readString(SOURCE);
        String code = source.replaceAll("(?s)/\\*.*?\\*/", "").replaceAll("//[^\n]*", "");
        checkMembers();
        checkConstants();
        checkClasses();
        checkLibrary(code);
        checkWords(code);
        checkLengths(source);
        System.out.println(wrong == 0 ? "the face is as due" : wrong + " findings");
        if (wrong != 0) {
            System.exit(1);
        }
    }
}
