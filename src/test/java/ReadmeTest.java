import java.io.IOException;
import java.lang.reflect.InvocationTargetException;
import java.lang.reflect.Method;
import java.nio.file.Files;
import java.nio.file.Path;
import java.util.regex.Matcher;
import java.util.regex.Pattern;

/** The calls that README.md shows answer what it says. */
public final class ReadmeTest {
    private static final Pattern CALL = Pattern.compile("heap\\.(\\w+)\\(([-0-9, ]*)\\);(?: *// -> ([-\\w]+))?.*");

    private ReadmeTest() {
    }

    public static void main(String[] args) throws IOException {
        MigrantHeap heap = new MigrantHeap();
        int shown = 0;
        for (String row : Files.readAllLines(Path.of("README.md"))) {
            Matcher call = CALL.matcher(row);
            shown += row.startsWith("heap.") ? 1 : 0;
            Expect.yes(row + " is a call that can be read", call.matches() == row.startsWith("heap."));
            if (call.matches()) {
                String got = answer(heap, call.group(1), call.group(2));
                // A call of no answer has none behind it.
                String due = call.group(3) == null ? "null" : call.group(3);
                Expect.yes(row + " answered " + got + ", which", got.equals(due));
            }
        }
        Expect.yes("README.md shows calls", shown > 0);
        Expect.end();
    }

    private static String answer(MigrantHeap heap, String name, String numbers) {
        String[] texts = numbers.isEmpty() ? new String[0] : numbers.split(", *");
        Object[] arguments = new Object[texts.length];
        for (int i = 0; i < texts.length; i++) {
            arguments[i] = Integer.valueOf(texts[i]);
        }
        try {
            Object got = methodOf(name).invoke(heap, arguments);
            return got instanceof Boolean yes ? (yes ? "1" : "0") : String.valueOf(got);
        } catch (InvocationTargetException e) {
            return e.getCause().getClass().getSimpleName();
        } catch (IllegalAccessException e) {
            throw new AssertionError(e);
        }
    }

    private static Method methodOf(String name) {
        for (Method method : MigrantHeap.class.getMethods()) {
            if (method.getName().equals(name)) {
                return method;
            }
        }
        throw new AssertionError("no method " + name);
    }
}
