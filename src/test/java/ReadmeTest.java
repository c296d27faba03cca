import java.io.IOException;
import java.lang.reflect.Method;
import java.nio.file.Files;
import java.nio.file.Path;
import java.util.ArrayList;
import java.util.List;

/** What README.md shows is so: its texts are read, and each of its calls answers what stands behind it. */
final class ReadmeTest {
    private static final Check check = new Check();
    private static final EatKnown x = new EatKnown();

    public static void main(String[] args) throws IOException, ReflectiveOperationException {
        String readme = Files.readString(Path.of("README.md"));
        List<String> texts = blocks(readme, "text");
        List<String> java = blocks(readme, "java");
        check.same("texts: a library and a history", texts.size(), 2);
        check.same("blocks of Java: the helper, and two of calls", java.size(), 3);
        for (int i = 0; i < 2; i++) {
            Check.say(x, texts.get(i));
            ask(java.get(i + 1));
        }
        check.end();
    }

    /** What stands between the fences of a kind. */
    private static List<String> blocks(String readme, String kind) {
        List<String> found = new ArrayList<>();
        String[] parts = readme.split("```");
        for (int i = 1; i < parts.length; i += 2) {
            if (parts[i].startsWith(kind + "\n")) {
                found.add(parts[i].substring(kind.length() + 1));
            }
        }
        return found;
    }

    /** Lines as "x.call(1, true);   // answer: what it means". */
    private static void ask(String block) throws ReflectiveOperationException {
        for (String line : block.split("\n")) {
            String call = line.substring(0, line.indexOf(';'));
            String due = line.substring(line.indexOf("// ") + 3, line.indexOf(':'));
            String got = answer(call);
            check.same("whether README tells rightly of " + call + " (" + due + " there, here " + got + ")", got.equals(due), true);
        }
    }

    private static String answer(String call) throws ReflectiveOperationException {
        String name = call.substring(call.indexOf('.') + 1, call.indexOf('('));
        String inside = call.substring(call.indexOf('(') + 1, call.indexOf(')'));
        String[] given = inside.isEmpty() ? new String[0] : inside.split(", ");
        for (Method method : EatKnown.class.getDeclaredMethods()) {
            if (method.getName().equals(name) && method.getParameterCount() == given.length) {
                return String.valueOf(method.invoke(x, values(method.getParameterTypes(), given)));
            }
        }
        return "nothing, as there is no such call";
    }

    private static Object[] values(Class<?>[] types, String[] given) {
        Object[] values = new Object[given.length];
        for (int i = 0; i < given.length; i++) {
            values[i] = types[i] == boolean.class ? (Object) Boolean.valueOf(given[i]) : (Object) Integer.valueOf(given[i]);
        }
        return values;
    }
}
