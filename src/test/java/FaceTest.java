import java.io.IOException;
import java.lang.reflect.Constructor;
import java.lang.reflect.Field;
import java.lang.reflect.Method;
import java.lang.reflect.Modifier;
import java.nio.file.Files;
import java.nio.file.Path;
import java.util.ArrayList;
import java.util.Arrays;
import java.util.HashSet;
import java.util.List;
import java.util.Set;
import java.util.TreeSet;
import java.util.regex.Matcher;
import java.util.regex.Pattern;
import java.util.stream.Collectors;

/** The public face as the document tells it, and those rules of LANGUAGE.md that a look at the class can tell. */
public final class FaceTest {
    private static final Checks CHECKS = new Checks();

    private static final String FACE = "feed(int) end(int) text() fault() rule(int) heir(int,int) line(int) "
        + "alter(int,int,int) lumbago(int) works(int) change(int,int) bear(int,int,int) reigns(int) runs(int,int) "
        + "ahead(int,int,int) soonest(int) again() ruins() need(int) order(int,int) stool(int,int) term(int,int,int) "
        + "ache(int,int) builder(int,int) luck(int,int,int,int) mean(int,int,int) see(int,int) forget(int) kinds(int) "
        + "springs(int) ask(int,int) drift(int,int,int) keep(int) back(int) sheet(int,int,int) lay(int,int,int) "
        + "read(int,int,int,int) torn() count(int)";

    private static void holds(String what, boolean so) {
        CHECKS.due(what, so ? 1 : 0, 1);
    }

    private static String told(Method m) {
        return m.getName() + Arrays.stream(m.getParameterTypes()).map(Class::getName).collect(Collectors.joining(",", "(", ")"));
    }

    private static void methods() {
        Set<String> open = new TreeSet<>();
        Set<String> names = new HashSet<>();
        List<Method> hidden = new ArrayList<>();
        for (Method m : LeapKings.class.getDeclaredMethods()) {
            if (Modifier.isPrivate(m.getModifiers())) {
                hidden.add(m);
            } else {
                holds(m + " is public and no static", Modifier.isPublic(m.getModifiers()) && !Modifier.isStatic(m.getModifiers()));
                boolean wide = m.getName().equals("luck") || m.getName().equals("mean");
                holds(m + " answers as told", m.getReturnType() == (wide ? long.class : int.class));
                open.add(told(m));
                names.add(m.getName());
            }
        }
        Set<String> want = new TreeSet<>(List.of(FACE.split(" ")));
        holds("the face is " + want + ", not " + open, open.equals(want));
        for (Class<?> inner : LeapKings.class.getDeclaredClasses()) {
            hidden.addAll(List.of(inner.getDeclaredMethods()));
        }
        for (Method m : hidden) {
            holds(m + " bears no public name", !names.contains(m.getName()));
            holds(m + " has seven parameters at most", m.getParameterCount() <= 7);
        }
    }

    private static void fields() {
        int[] constants = {LeapKings.BAD, LeapKings.STATE, LeapKings.FULL, LeapKings.NONE};
        for (int i = 0; i < 4; i++) {
            CHECKS.due("constant " + i, constants[i], -1 - i);
        }
        Set<String> open = new TreeSet<>();
        for (Field f : LeapKings.class.getDeclaredFields()) {
            if (!Modifier.isPrivate(f.getModifiers())) open.add(f.getName());
        }
        holds("the constants alone are open: " + open, open.equals(Set.of("BAD", "STATE", "FULL", "NONE")));
    }

    private static void classes() {
        holds("public and final", Modifier.isPublic(LeapKings.class.getModifiers()) && Modifier.isFinal(LeapKings.class.getModifiers()));
        Constructor<?>[] made = LeapKings.class.getDeclaredConstructors();
        holds("one constructor, public, of nothing", made.length == 1 && Modifier.isPublic(made[0].getModifiers()) && made[0].getParameterCount() == 0);
        Class<?>[] inner = LeapKings.class.getDeclaredClasses();
        holds("twelve classes at most", inner.length < 12);
        List<Class<?>> all = new ArrayList<>(List.of(inner));
        all.add(LeapKings.class);
        for (Class<?> c : all) {
            holds(c + " is static", c == LeapKings.class || Modifier.isStatic(c.getModifiers()));
            int own = 0;
            for (Field f : c.getDeclaredFields()) {
                boolean still = Modifier.isStatic(f.getModifiers());
                holds(f + " is final if it is static", !still || Modifier.isFinal(f.getModifiers()));
                if (!still) own++;
            }
            holds(c + " has twenty fields at most", own <= 20);
        }
    }

    private static void source() throws IOException {
        String text = Files.readString(Path.of("src/main/java/LeapKings.java"));
        String code = text.replaceAll("(?s)/\\*.*?\\*/", "").replaceAll("//[^\n]*", "").replaceAll("\"[^\"\n]*\"", "\"\"");
        for (String word : List.of("throw", "throws", "try", "catch", "finally", "synchronized", "assert", "import", "package", "var", "protected")) {
            Matcher m = Pattern.compile("\\b" + word + "\\b").matcher(code);
            holds("no " + word, !m.find());
        }
        for (String sign : List.of("->", "::", "Exact", ".equals(", "hashCode", "toString", "@", "System.out", "while (true)", "for (;;)")) {
            holds("no " + sign, !code.contains(sign));
        }
        holds("signs of 127 at most", text.chars().allMatch(c -> c < 128));
        int length = 0;
        for (String l : text.split("\n")) {
            length = l.matches("    (    )?[a-z].*\\{") && !l.contains(" class ") ? 1 : length + 1;
            holds("a method of sixty lines at most: " + l, !l.matches("    (    )?\\}") || length <= 60);
            if (l.matches("    (    )?\\}")) length = -100000;
        }
    }

    public static void main(String[] args) throws Exception {
        methods();
        fields();
        classes();
        source();
        CHECKS.finish();
    }
}
