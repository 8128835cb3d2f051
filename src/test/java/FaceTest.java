import java.lang.reflect.Constructor;
import java.lang.reflect.Field;
import java.lang.reflect.Member;
import java.lang.reflect.Method;
import java.lang.reflect.Modifier;
import java.nio.file.Files;
import java.nio.file.Path;
import java.util.Arrays;
import java.util.Set;
import java.util.TreeSet;
import java.util.regex.Matcher;
import java.util.regex.Pattern;

/** The public face, and those rules of LANGUAGE.md that the class file or the text shows. */
public final class FaceTest {
    private static final Due DUE = new Due("FaceTest");
    private static final Path SOURCE = Path.of("src/main/java/ProvenLedger.java");
    private static final Set<String> FACE = new TreeSet<>(Set.of(
            "boolean collector(int)", "int grant(int,long)", "int send(int,int,long,long,int)",
            "boolean close(int)", "int nonce(int)", "long balance(int)", "int accounts()", "long root(int)",
            "int nodes(int)", "int size()", "int prove(int)", "int parts()", "int length(int)",
            "int part(int,int)", "boolean alter(int,int,int)", "int shorten()", "int check(int)",
            "long proven(int)"));
    private static final Set<String> CONSTANTS = new TreeSet<>(Set.of("BAD", "WRONG_NONCE", "POOR", "FULL"));
    // Each of these stands for a rule of LANGUAGE.md that it would break.
    private static final String[] UNWANTED = {
        "->", "::", "\\bimport\\b", "\\bpackage\\b", "\\bsynchronized\\b", "\\bassert\\b", "\\bfinally\\b",
        "\\btry\\b", "\\bthrow\\b", "\\bStringBuilder\\b", "\\bfloat\\b", "\\bdouble\\b", "\\bstatic \\{",
        "Exact\\(", "\\bnew Object\\b", "\\bInteger\\b", "\\bSystem\\.(?!arraycopy)", "\\bprotected\\b",
    };

    private static final Set<String> LIBRARY = Set.of("Math.max", "System.arraycopy");
    private static final Set<Class<?>> NUMBERS = Set.of(int.class, long.class, boolean.class);
    private static final Set<Class<?>> ROWS = Set.of(int[].class, long[].class);
    private static final int MOST_LINES = 60;
    // From the line of a method's name to the brace that stands under the name's beginning.
    private static final Pattern METHOD = Pattern.compile(
            "(?ms)^(    |        )(?! )[\\w\\[\\] ]+\\([^\\n]*\\) \\{$.*?^\\1\\}$");

    private FaceTest() {
    }

    public static void main(String[] args) throws Exception {
        face();
        for (Class<?> inside : ProvenLedger.class.getDeclaredClasses()) {
            insideClass(inside);
        }
        fields(ProvenLedger.class);
        String text = Files.readString(SOURCE).replaceAll("(?s)/\\*.*?\\*/", "").replaceAll("//[^\n]*", "");
        unwanted(text);
        library(text);
        methodsAreShort(text);
        DUE.end();
    }

    private static void face() {
        Class<?> type = ProvenLedger.class;
        DUE.isTrue("public and final", Modifier.isPublic(type.getModifiers()) && Modifier.isFinal(type.getModifiers()));
        Set<String> methods = new TreeSet<>();
        for (Method method : type.getDeclaredMethods()) {
            if (Modifier.isPublic(method.getModifiers())) {
                String parameters = Arrays.toString(Arrays.stream(method.getParameterTypes()).map(Class::getName).toArray());
                methods.add(method.getReturnType() + " " + method.getName()
                        + parameters.replace("[", "(").replace("]", ")").replace(" ", ""));
            } else {
                isPrivate(method);
                nameIsNotOfTheFace(method);
            }
        }
        DUE.isTrue("the methods: " + methods, methods.equals(FACE));
        Set<String> constants = new TreeSet<>();
        for (Field field : type.getDeclaredFields()) {
            if (Modifier.isPublic(field.getModifiers())) {
                constants.add(field.getName());
            } else {
                isPrivate(field);
            }
        }
        DUE.isTrue("the constants: " + constants, constants.equals(CONSTANTS));
        Constructor<?>[] constructors = type.getDeclaredConstructors();
        DUE.is("constructors", constructors.length, 1);
        DUE.is("constructor's parameters", constructors[0].getParameterCount(), 0);
        DUE.isTrue("constructor is public", Modifier.isPublic(constructors[0].getModifiers()));
        DUE.isTrue("classes", type.getDeclaredClasses().length < 12);
    }

    private static void insideClass(Class<?> inside) {
        int modifiers = inside.getModifiers();
        DUE.isTrue(inside + " is static", Modifier.isStatic(modifiers));
        DUE.isFalse(inside + " is public", Modifier.isPublic(modifiers) || Modifier.isProtected(modifiers));
        DUE.isTrue(inside + " has few fields", inside.getDeclaredFields().length <= 20);
        for (Method method : inside.getDeclaredMethods()) {
            nameIsNotOfTheFace(method);
            DUE.isTrue(method + " has few parameters", method.getParameterCount() <= 7);
        }
        fields(inside);
    }

    // Rules 3 and 5.
    private static void fields(Class<?> type) {
        for (Field field : type.getDeclaredFields()) {
            Class<?> kind = field.getType();
            if (Modifier.isStatic(field.getModifiers())) {
                DUE.isTrue(field + " is final", Modifier.isFinal(field.getModifiers()));
                DUE.isTrue(field + " is a constant", NUMBERS.contains(kind) || ROWS.contains(kind));
            } else {
                boolean own = kind.getNestHost() == ProvenLedger.class;
                boolean row = ROWS.contains(kind) || kind == int[][].class || kind == ProvenLedger.Node[].class;
                DUE.isTrue(field + " has a type of rule 3", own || row || NUMBERS.contains(kind));
            }
        }
    }

    private static void isPrivate(Member member) {
        DUE.isTrue(member + " is private", Modifier.isPrivate(member.getModifiers()));
    }

    private static void nameIsNotOfTheFace(Method method) {
        for (String face : FACE) {
            String name = face.substring(face.indexOf(' ') + 1, face.indexOf('('));
            DUE.isFalse(method + " has a name of the face", method.getName().equals(name));
        }
    }

    private static void unwanted(String text) {
        for (String unwanted : UNWANTED) {
            DUE.isFalse("the text has " + unwanted, Pattern.compile(unwanted).matcher(text).find());
        }
    }

    // Rule 4: what is called by the name of a class is the library's, for the program so calls nothing of its own.
    private static void library(String text) {
        Matcher call = Pattern.compile("\\b[A-Z]\\w*[a-z]\\w*\\.\\w+").matcher(text);
        while (call.find()) {
            DUE.isTrue("the library's " + call.group(), LIBRARY.contains(call.group()));
        }
    }

    // Rule 11.
    private static void methodsAreShort(String text) {
        Matcher method = METHOD.matcher(text);
        int methods = 0;
        while (method.find()) {
            long lines = method.group().lines().count();
            DUE.isTrue(method.group().lines().findFirst().orElse("") + " has " + lines + " lines", lines <= MOST_LINES);
            methods++;
        }
        DUE.isTrue("methods seen: " + methods, methods > FACE.size());
    }
}
