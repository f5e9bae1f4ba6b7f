import java.lang.reflect.Method;
import java.lang.reflect.Modifier;
import java.nio.file.Files;
import java.nio.file.Path;
import java.util.regex.Matcher;
import java.util.regex.Pattern;

/** Each call that README.md shows answers what stands behind it there; it names all calls. */
public final class ReadmeTest {
    private static final Pattern CALL = Pattern.compile("x\\.(\\w+)\\((.*?)\\);\\s*// (-?\\d+)\\b.*");
    private static final Pattern TELL = Pattern.compile("tell\\(x, \"(.*?)\"\\);\\s*// (-?\\d+)\\b.*");

    private static final Due due = new Due();

    public static void main(String[] args) throws Exception {
        String readme = Files.readString(Path.of("README.md"));
        shown(readme);
        named(readme);
        due.close("ReadmeTest");
    }

    private static void shown(String readme) throws Exception {
        RodOwes x = new RodOwes();
        int calls = 0;
        for (String line : readme.split("\n")) {
            if (line.startsWith("x.") || line.startsWith("tell(")) {
                calls++;
                answers(x, line);
            }
        }
        due.is("README.md shows calls", calls > 0 ? 1 : 0, 1);
    }

    private static void answers(RodOwes x, String line) throws Exception {
        Matcher call = CALL.matcher(line);
        Matcher tell = TELL.matcher(line);
        if (call.matches()) {
            due.is(line, called(x, call.group(1), call.group(2)), Long.parseLong(call.group(3)));
        } else if (tell.matches()) {
            due.is(line, Due.tell(x, tell.group(1)), Long.parseLong(tell.group(2)));
        } else {
            due.is("no answer stands behind: " + line, 0, 1);
        }
    }

    private static long called(RodOwes x, String name, String list) throws Exception {
        String[] words = list.isEmpty() ? new String[0] : list.split(", ");
        for (Method m : RodOwes.class.getMethods()) {
            if (m.getName().equals(name) && m.getParameterCount() == words.length) {
                Object[] given = new Object[words.length];
                for (int i = 0; i < words.length; i++) {
                    boolean yesNo = m.getParameterTypes()[i] == boolean.class;
                    given[i] = yesNo ? (Object) Boolean.valueOf(words[i]) : (Object) Integer.valueOf(words[i]);
                }
                return ((Number) m.invoke(x, given)).longValue();
            }
        }
        throw new IllegalArgumentException("no such call: " + name + "(" + list + ")");
    }

    private static void named(String readme) {
        for (Method m : RodOwes.class.getDeclaredMethods()) {
            if (Modifier.isPublic(m.getModifiers())) {
                due.is("README.md names " + m.getName(), readme.contains("`" + m.getName() + "`") ? 1 : 0, 1);
            }
        }
    }
}
