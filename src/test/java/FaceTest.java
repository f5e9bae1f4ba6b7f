import java.lang.reflect.Constructor;
import java.lang.reflect.Field;
import java.lang.reflect.Member;
import java.lang.reflect.Method;
import java.lang.reflect.Modifier;
import java.nio.file.Files;
import java.nio.file.Path;
import java.util.Set;
import java.util.TreeSet;
import java.util.regex.Matcher;
import java.util.regex.Pattern;

/** The public face is just the document's, and the source keeps to LANGUAGE.md where a plain look can tell. */
public final class FaceTest {
    private static final String[] METHODS = {
        "int feed(int)", "int end(int)", "int text()", "int fault()", "int rule(int)", "int cell(int,int)",
        "int purse(int)", "int wet(int,int)", "int iron(int,boolean)", "int odd(int,int)", "int claim(int,int)",
        "int fund(int,int)", "int cut(int,int)", "int owe(int,int,int)", "int pay(int)", "int rain(int)",
        "int twitch(int,int,int)", "int see(int,int,int,boolean)", "int forget(int)", "int natures()",
        "int reaches(int)", "int test(int,int)", "int show(int,int,int,int)", "int bore(int,int,int)",
        "long plan(int,int,int,int)", "int beds(int)", "int next(int,int)", "int crash(int)", "int save(int)",
        "int luck(int,int)", "int keep(int)", "int back(int)", "int sheet(int,int,int)", "int lay(int,int,int)",
        "int read(int,int,int,int)", "int torn()", "int count(int)"};

    private static final Due due = new Due();

    public static void main(String[] args) throws Exception {
        constants();
        members();
        names();
        words();
        due.close("FaceTest");
    }

    private static void constants() {
        due.is("BAD", RodOwes.BAD, -1);
        due.is("STATE", RodOwes.STATE, -2);
        due.is("FULL", RodOwes.FULL, -3);
        due.is("NONE", RodOwes.NONE, -4);
    }

    private static void members() {
        Set<String> found = new TreeSet<>();
        for (Method m : RodOwes.class.getDeclaredMethods()) {
            if (isOpen(m)) {
                StringBuilder s = new StringBuilder(m.getReturnType() + " " + m.getName() + "(");
                for (int i = 0; i < m.getParameterCount(); i++) {
                    s.append(i == 0 ? "" : ",").append(m.getParameterTypes()[i]);
                }
                found.add(s.append(")").toString());
            }
        }
        Set<String> wanted = new TreeSet<>(Set.of(METHODS));
        same("open methods", found, wanted);
        Set<String> fields = new TreeSet<>();
        for (Field f : RodOwes.class.getDeclaredFields()) {
            if (isOpen(f)) {
                fields.add(f.getName());
            }
        }
        same("open fields", fields, new TreeSet<>(Set.of("BAD", "STATE", "FULL", "NONE")));
        Constructor<?>[] made = RodOwes.class.getDeclaredConstructors();
        due.is("constructors", made.length, 1);
        due.is("its parameters", made[0].getParameterCount(), 0);
        due.is("public final", RodOwes.class.getModifiers() & (Modifier.PUBLIC | Modifier.FINAL),
            Modifier.PUBLIC | Modifier.FINAL);
    }

    private static boolean isOpen(Member m) {
        return !Modifier.isPrivate(m.getModifiers()) && !m.isSynthetic();
    }

    /** No private method, and none of a class inside, bears a public name; the classes inside are static and few. */
    private static void names() {
        Set<String> open = new TreeSet<>();
        for (String m : METHODS) {
            open.add(m.substring(m.indexOf(' ') + 1, m.indexOf('(')));
        }
        for (Method m : RodOwes.class.getDeclaredMethods()) {
            boolean hidden = Modifier.isPrivate(m.getModifiers());
            due.is(m + " bears a public name", hidden && open.contains(m.getName()) ? 1 : 0, 0);
        }
        Class<?>[] inside = RodOwes.class.getDeclaredClasses();
        due.is("few classes", inside.length <= 11 ? 1 : 0, 1);
        for (Class<?> c : inside) {
            due.is(c.getName() + " is static", Modifier.isStatic(c.getModifiers()) ? 1 : 0, 1);
            due.is(c.getName() + " is not public", Modifier.isPublic(c.getModifiers()) ? 1 : 0, 0);
            int fields = 0;
            for (Field f : c.getDeclaredFields()) {
                boolean still = Modifier.isStatic(f.getModifiers());
                due.is(f + " is final", !still || Modifier.isFinal(f.getModifiers()) ? 1 : 0, 1);
                fields += still ? 0 : 1;
            }
            due.is(c.getName() + " has few fields", fields <= 20 ? 1 : 0, 1);
            for (Method m : c.getDeclaredMethods()) {
                due.is(m + " bears a public name", open.contains(m.getName()) ? 1 : 0, 0);
                due.is(m + " has few parameters", m.getParameterCount() <= 7 ? 1 : 0, 1);
            }
        }
    }

    /** Words that LANGUAGE.md leaves out, and what it lists of the library. */
    private static void words() throws Exception {
        String source = Files.readString(Path.of("src/main/java/RodOwes.java"));
        String bare = source.replaceAll("(?s)/\\*.*?\\*/", "").replaceAll("//[^\n]*", "").replaceAll("\"[^\"]*\"", "S");
        String[] refused = {"throw", "throws", "try", "catch", "synchronized", "assert", "package", "Object",
            "Random", "Thread", "Exact", "protected", "volatile", "native", "->", "::", "instanceof"};
        for (String word : refused) {
            boolean there = word.matches("\\w+") ? Pattern.compile("\\b\\w*" + (word.equals("Exact") ? word : "\\b" + word)
                + "\\b").matcher(bare).find() : bare.contains(word);
            due.is("the source has " + word, there ? 1 : 0, 0);
        }
        Set<String> imports = new TreeSet<>();
        Matcher m = Pattern.compile("import\\s+([\\w.*]+)").matcher(bare);
        while (m.find()) {
            imports.add(m.group(1));
        }
        same("imports", imports, new TreeSet<>(Set.of("java.util.Arrays")));
        for (int i = 0; i < source.length(); i++) {
            if (source.charAt(i) > 126) {
                due.is("sign at " + i, source.charAt(i), ' ');
            }
        }
    }

    private static void same(String what, Set<String> got, Set<String> want) {
        Set<String> more = new TreeSet<>(got);
        more.removeAll(want);
        Set<String> less = new TreeSet<>(want);
        less.removeAll(got);
        due.is(what + ": too many " + more, more.size(), 0);
        due.is(what + ": missing " + less, less.size(), 0);
    }
}
