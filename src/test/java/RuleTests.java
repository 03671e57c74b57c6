import java.lang.reflect.Constructor;
import java.lang.reflect.Field;
import java.lang.reflect.Method;
import java.lang.reflect.Modifier;
import java.nio.file.Files;
import java.nio.file.Path;
import java.util.Arrays;
import java.util.List;
import java.util.Set;
import java.util.TreeSet;
import java.util.regex.Matcher;
import java.util.regex.Pattern;

/** The face, and what of ../shared/LANGUAGE.md a look at the source can tell. */
final class RuleTests {
    private static final List<String> FACE = List.of(
        "int house(int,int)", "int say(int)", "int wipe()", "int fault(int)", "int build()", "int cell(int)",
        "int place(int,int)", "int watch(int,int,boolean)", "int dismiss()", "int ears(int)", "int judge(int)",
        "int sees(int)", "int bare()", "int safe(int)", "int least(int)", "int flour(int)", "int post(int)",
        "int meet(int,int)", "int where(int,int,int)", "long wind(int,int)", "int night(int,int,int)",
        "int image(int)", "int restore(int)", "int told(int)");

    static void run(Checks c) throws Exception {
        face(c);
        constants(c);
        insideNames(c);
        source(c);
    }

    private static String written(Method m) {
        StringBuilder text = new StringBuilder(m.getReturnType() + " " + m.getName() + "(");
        for (Class<?> type : m.getParameterTypes()) {
            text.append(text.charAt(text.length() - 1) == '(' ? "" : ",").append(type);
        }
        return text.append(")").toString();
    }

    private static void face(Checks c) {
        Set<String> found = new TreeSet<>();
        for (Method m : CapHouse.class.getDeclaredMethods()) {
            if (!Modifier.isPrivate(m.getModifiers())) {
                c.holds("public, not static: " + m, m.getModifiers() == Modifier.PUBLIC);
                found.add(written(m));
            }
        }
        c.holds("the methods of the face", found.equals(new TreeSet<>(FACE)));
        c.holds("public and final", CapHouse.class.getModifiers() == (Modifier.PUBLIC | Modifier.FINAL));
        Constructor<?>[] made = CapHouse.class.getDeclaredConstructors();
        c.holds("one constructor", made.length == 1 && made[0].getModifiers() == Modifier.PUBLIC
            && made[0].getParameterCount() == 0);
    }

    private static void constants(Checks c) throws Exception {
        Set<String> found = new TreeSet<>();
        for (Field f : CapHouse.class.getDeclaredFields()) {
            if (!Modifier.isPrivate(f.getModifiers())) {
                c.holds("constant: " + f, f.getModifiers() == (Modifier.PUBLIC | Modifier.STATIC | Modifier.FINAL));
                found.add(f.getType() + " " + f.getName() + " " + f.get(null));
            }
        }
        c.holds("the constants", found.equals(new TreeSet<>(List.of("int UNKNOWN -1", "int OUTSIDE -2", "int STATE -3",
            "int FULL -4", "int NO -5", "int NONE -6", "long GONE -1000000000000000000"))));
    }

    private static void insideNames(Checks c) {
        Set<String> names = new TreeSet<>();
        FACE.forEach(f -> names.add(f.substring(f.indexOf(' ') + 1, f.indexOf('('))));
        for (Class<?> inside : CapHouse.class.getDeclaredClasses()) {
            c.holds("private and static: " + inside, Modifier.isPrivate(inside.getModifiers())
                && Modifier.isStatic(inside.getModifiers()));
            c.holds("few fields: " + inside, inside.getDeclaredFields().length <= 20);
            for (Method m : inside.getDeclaredMethods()) {
                c.holds("no name of the face: " + m, !names.contains(m.getName()));
            }
        }
        for (Method m : CapHouse.class.getDeclaredMethods()) {
            c.holds("no name of the face: " + m, !Modifier.isPrivate(m.getModifiers()) || !names.contains(m.getName()));
        }
        c.holds("few classes", CapHouse.class.getDeclaredClasses().length <= 12);
    }

    private static void source(Checks c) throws Exception {
        String text = Files.readString(Path.of("src/main/java/CapHouse.java"));
        for (String banned : new String[] {"->", "::", "throw ", "catch", "finally", "synchronized", "assert ",
            "Exception", "Object", "@", "import static", "package ", "System.out", "Math.random", "null", "goto"}) {
            c.holds("no " + banned, !text.contains(banned));
        }
        Matcher imports = Pattern.compile("import [^;]*;").matcher(text);
        while (imports.find()) {
            c.due("import " + imports.group(), imports.group().equals("import java.util.Arrays;") ? 1 : 0, 1);
        }
        Set<String> library = new TreeSet<>();
        Matcher calls = Pattern.compile("\\b(Arrays|Math|System|Integer|Long)\\.(\\w+)").matcher(text);
        while (calls.find()) {
            library.add(calls.group());
        }
        library.removeAll(Arrays.asList("Arrays.fill", "Math.min", "System.arraycopy", "Integer.bitCount"));
        c.holds("the library " + library, library.isEmpty());
        for (int i = 0; i < text.length(); i++) {
            if (text.charAt(i) > 126) {
                c.due("plain signs alone, at " + i, text.charAt(i), '?');
            }
        }
        madeInConstructorsAlone(c, text);
    }

    /** All rows and objects are made as fields or in the constructor: no call makes any. */
    private static void madeInConstructorsAlone(Checks c, String text) {
        boolean constructor = false;
        for (String line : text.split("\n")) {
            constructor = line.startsWith("    public CapHouse()") || constructor && !line.equals("    }");
            if (line.contains("new ")) {
                c.holds("made once: " + line.trim(), constructor || line.matches(" {8}final \\S+ \\w+ = new .*;"));
            }
        }
    }
}
