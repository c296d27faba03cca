import java.io.IOException;
import java.lang.reflect.Constructor;
import java.lang.reflect.Field;
import java.lang.reflect.Member;
import java.lang.reflect.Method;
import java.lang.reflect.Modifier;
import java.nio.file.Files;
import java.nio.file.Path;
import java.util.Arrays;
import java.util.Set;
import java.util.TreeSet;
import java.util.regex.Matcher;
import java.util.regex.Pattern;

/** The face is that of the document, and the source keeps to the rules of LANGUAGE.md that can be seen from outside. */
final class FaceTest {
    private static final Check check = new Check();
    private static final Path SOURCE = Path.of("src/main/java/EatKnown.java");

    /** Names and kinds of the parameters, and the answer, as the document's 'The public face' has them. */
    private static final String[] FACE = {
        "int feed(long, long, long)", "int library()", "int history()", "int fact(int, int)", "int page(int, int)",
        "int person(int, int) throws NoSuchElementException", "int task(int, int)", "boolean eat(int, int)",
        "int bite(int, int, int)", "int copy(int)", "int dies(int)", "int days(int)", "boolean undo()", "int lost()",
        "int judged(int)", "int meal(int, int, int)", "int safe(int)", "int sit(int)", "int evenings()",
        "boolean tell(int, boolean)", "int guessed(int, int)", "int unlearn(int)", "int lies(int)", "int rests(int, int)",
        "int hands(int, int)", "int price(int, int)", "int years(int, int, int)", "boolean mark(int, boolean)",
        "int count(int)"};

    public static void main(String[] args) throws IOException, ReflectiveOperationException {
        theClassIsPublicAndFinal();
        theFaceIsTheDocuments();
        theConstantIsNone();
        noOtherMemberShows();
        noPrivateMethodBearsTheNameOfAPublicOne();
        classesInsideAreFewAndStatic();
        theSourceUsesTheLanguageThatIsLeft(code());
        check.end();
    }

    private static void theClassIsPublicAndFinal() {
        check.same("modifiers", EatKnown.class.getModifiers(), Modifier.PUBLIC | Modifier.FINAL);
        check.same("no package", EatKnown.class.getPackageName().isEmpty(), true);
        check.same("no class above it", EatKnown.class.getSuperclass() == Object.class, true);
        check.same("no interface", EatKnown.class.getInterfaces().length, 0);
    }

    private static String told(Method method) {
        StringBuilder s = new StringBuilder(method.getReturnType().getSimpleName()).append(' ').append(method.getName());
        s.append('(').append(list(method.getParameterTypes())).append(')');
        return method.getExceptionTypes().length == 0 ? s.toString()
            : s.append(" throws ").append(list(method.getExceptionTypes())).toString();
    }

    private static String list(Class<?>[] types) {
        StringBuilder s = new StringBuilder();
        for (Class<?> type : types) {
            s.append(s.length() == 0 ? "" : ", ").append(type.getSimpleName());
        }
        return s.toString();
    }

    private static void theFaceIsTheDocuments() {
        Set<String> found = new TreeSet<>();
        for (Method method : EatKnown.class.getDeclaredMethods()) {
            if (Modifier.isPublic(method.getModifiers())) {
                check.same(method + " is plainly public", method.getModifiers(), Modifier.PUBLIC);
                found.add(told(method));
            }
        }
        Set<String> due = new TreeSet<>(Arrays.asList(FACE));
        check.same("methods " + found + ", due are " + due, found.equals(due), true);
        Constructor<?>[] made = EatKnown.class.getDeclaredConstructors();
        check.same("constructors", made.length, 1);
        check.same("it is public", made[0].getModifiers(), Modifier.PUBLIC);
        check.same("it takes nothing", made[0].getParameterCount(), 0);
    }

    private static void theConstantIsNone() throws ReflectiveOperationException {
        Field none = EatKnown.class.getDeclaredField("NONE");
        check.same("NONE", none.getInt(null), -1);
        check.same("modifiers of NONE", none.getModifiers(), Modifier.PUBLIC | Modifier.STATIC | Modifier.FINAL);
    }

    private static void noOtherMemberShows() {
        for (Field field : EatKnown.class.getDeclaredFields()) {
            hidden(field);
            check.same(field + " is final if it is static",
                Modifier.isStatic(field.getModifiers()) && !Modifier.isFinal(field.getModifiers()), false);
        }
        for (Method method : EatKnown.class.getDeclaredMethods()) {
            hidden(method);
        }
    }

    private static void hidden(Member member) {
        boolean shown = member.getName().equals("NONE") || Modifier.isPublic(member.getModifiers())
            && member instanceof Method;
        check.same(member + " shows", Modifier.isPrivate(member.getModifiers()), !shown);
    }

    private static Set<String> faceNames() {
        Set<String> names = new TreeSet<>();
        for (String line : FACE) {
            names.add(line.substring(line.indexOf(' ') + 1, line.indexOf('(')));
        }
        return names;
    }

    private static void noPrivateMethodBearsTheNameOfAPublicOne() {
        for (Method method : EatKnown.class.getDeclaredMethods()) {
            if (!Modifier.isPublic(method.getModifiers())) {
                check.same("a private method " + method.getName(), faceNames().contains(method.getName()), false);
            }
        }
        for (Class<?> inside : EatKnown.class.getDeclaredClasses()) {
            for (Method method : inside.getDeclaredMethods()) {
                boolean isPrivate = Modifier.isPrivate(method.getModifiers());
                check.same("a private method " + method, isPrivate && faceNames().contains(method.getName()), false);
            }
        }
    }

    private static void classesInsideAreFewAndStatic() {
        Class<?>[] classes = EatKnown.class.getDeclaredClasses();
        check.same("some twelve classes at most: " + classes.length, classes.length <= 12, true);
        for (Class<?> inside : classes) {
            int modifiers = inside.getModifiers();
            check.same(inside + " is private or package-visible, and static",
                Modifier.isStatic(modifiers) && !Modifier.isPublic(modifiers) && !Modifier.isProtected(modifiers), true);
            fewFields(inside);
        }
        fewFields(EatKnown.class);
    }

    private static void fewFields(Class<?> of) {
        int many = 0;
        for (Field field : of.getDeclaredFields()) {
            many += Modifier.isStatic(field.getModifiers()) ? 0 : 1;
        }
        check.same(of + " has some twenty fields at most: " + many, many <= 20, true);
        for (Method method : of.getDeclaredMethods()) {
            check.same(method + " takes seven at most", method.getParameterCount() <= 7, true);
        }
    }

    /** The source without comments and texts. */
    private static String code() throws IOException {
        String source = Files.readString(SOURCE);
        return source.replaceAll("(?s)/\\*.*?\\*/", " ").replaceAll("//[^\n]*", " ").replaceAll("\"[^\"\n]*\"", "TEXT");
    }

    private static void absent(String code, String pattern) {
        Matcher m = Pattern.compile(pattern).matcher(code);
        check.same("the source has " + pattern, m.find(), false);
    }

    private static void onlyCalls(String code, String of, String... allowed) {
        Matcher m = Pattern.compile("\\b" + of + "\\.(\\w+)").matcher(code);
        while (m.find()) {
            check.same("the source has " + m.group(), Arrays.asList(allowed).contains(m.group(1)), true);
        }
    }

    private static void theSourceUsesTheLanguageThatIsLeft(String code) {
        Matcher imports = Pattern.compile("\\bimport\\s+([^;]+);").matcher(code);
        while (imports.find()) {
            check.same("import " + imports.group(1), imports.group(1).equals("java.util.NoSuchElementException"), true);
        }
        for (String word : new String[] {"package", "try", "catch", "finally", "synchronized", "assert", "native", "volatile",
            "transient", "var", "Object", "Thread", "Random", "hashCode", "toString", "Class", "super", "strictfp"}) {
            absent(code, "\\b" + word + "\\b");
        }
        absent(code, "->");
        absent(code, "::");
        absent(code, "@");
        absent(code, "\\bTEXT\\s*\\+|\\+\\s*TEXT\\b");
        absent(code, "\\bjava\\.(?!util\\.NoSuchElementException)");
        absent(code, "\\b\\w*Exact\\s*\\(");
        onlyCalls(code, "System", "arraycopy");
        onlyCalls(code, "Integer", "bitCount");
        onlyCalls(code, "Math", "min", "max", "floorMod");
        Matcher thrown = Pattern.compile("\\bthrow\\b([^;]*);").matcher(code);
        while (thrown.find()) {
            check.same("throw" + thrown.group(1), thrown.group(1).equals(" new NoSuchElementException()"), true);
        }
        for (int i = 0; i < code.length(); i++) {
            if (code.charAt(i) > 126) {
                check.same("sign " + (int) code.charAt(i), code.charAt(i), ' ');
            }
        }
    }
}
