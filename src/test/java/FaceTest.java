import java.io.IOException;
import java.lang.reflect.Constructor;
import java.lang.reflect.Field;
import java.lang.reflect.Method;
import java.lang.reflect.Modifier;
import java.nio.file.Files;
import java.nio.file.Path;
import java.util.Arrays;
import java.util.HashSet;
import java.util.Set;
import java.util.TreeSet;

/** The face is the document's and nothing more, and the source keeps to rules that can be seen. */
public final class FaceTest {
    private static final Due DUE = new Due();
    private static final String[] FACE = {
        "int quarter(1)", "int speaker(2)", "int balcony(2)", "int comes(2)", "int builds(2)",
        "int shuts(1)", "int thinks(2)", "int goes(2)", "int quota(1)", "int days(1)",
        "int carries(1)", "int moodThen(2)", "int then(2)", "int when(0)", "int holds(1)",
        "int could(1)", "long power(2)", "int groups(1)", "int swings(1)", "int win(1)",
        "int guest(3)", "int shutter(1)", "int quotaMost(0)", "int rent(2)", "int bestRail(1)",
        "int match(1)", "int lines(1)", "int law(2)", "int whatIs(3)", "int two(2)",
        "long rain(2)", "long mean(1)", "int forged(1)", "int judge(1)", "int streets(3)",
        "int image(0)", "int restore(0)", "int count(1)", "int keep(4)", "int row(3)",
        "int put(3)", "long element(2)", "int copy(5)", "int cost(1)", "int toss(1)"
    };
    private static final String[] FORBIDDEN = {
        "->", "::", "finally", "synchronized", "assert", "getMessage", "Object", "import",
        "RuntimeException", "(Exception", "Throwable", "Error", "IndexOutOfBounds", "NullPointer",
        "ArithmeticException", "ClassCast", "NegativeArraySize", "ArrayStore", "Exact(", "while",
        "double", "float", "random", "System.out", "System.nano", "System.current", "Thread", "null"
    };

    public static void main(String[] args) throws IOException {
        methods();
        members();
        nestedClasses();
        source();
        DUE.end("FaceTest");
    }

    private static void methods() {
        Set<String> found = new TreeSet<>();
        for (Method m : BalconiesParliament.class.getDeclaredMethods()) {
            if (Modifier.isPublic(m.getModifiers())) {
                found.add(m.getReturnType() + " " + m.getName() + "(" + m.getParameterCount() + ")");
                for (Class<?> type : m.getParameterTypes()) {
                    DUE.so(m.getName() + " takes ints", type == int.class);
                }
                int thrown = m.getName().equals("element") ? 2 : 0;
                DUE.is(m.getName() + " says what it throws", m.getExceptionTypes().length, thrown);
            }
        }
        DUE.so("the methods: " + found, found.equals(new TreeSet<>(Arrays.asList(FACE))));
    }

    private static void members() {
        Class<?> c = BalconiesParliament.class;
        DUE.so("public and final", Modifier.isPublic(c.getModifiers()) && Modifier.isFinal(c.getModifiers()));
        Constructor<?>[] made = c.getDeclaredConstructors();
        DUE.is("constructors", made.length, 1);
        DUE.so("a public one", Modifier.isPublic(made[0].getModifiers()) && made[0].getParameterCount() == 0);
        for (Field f : c.getDeclaredFields()) {
            DUE.so(f.getName() + " is private", Modifier.isPrivate(f.getModifiers()));
        }
        for (Method m : c.getDeclaredMethods()) {
            boolean either = Modifier.isPublic(m.getModifiers()) || Modifier.isPrivate(m.getModifiers());
            DUE.so(m.getName() + " is public or private", either);
            boolean named = faceNames().contains(m.getName());
            DUE.so(m + " is of the face or has no name of it", Modifier.isPublic(m.getModifiers()) == named);
        }
    }

    private static Set<String> faceNames() {
        Set<String> names = new HashSet<>();
        for (String f : FACE) {
            names.add(f.substring(f.indexOf(' ') + 1, f.indexOf('(')));
        }
        return names;
    }

    private static void nestedClasses() {
        Set<String> names = faceNames();
        Class<?>[] inside = BalconiesParliament.class.getDeclaredClasses();
        DUE.so("some twelve classes", inside.length <= 12);
        for (Class<?> c : inside) {
            DUE.so(c + " is static", Modifier.isStatic(c.getModifiers()));
            int fields = 0;
            for (Field f : c.getDeclaredFields()) {
                boolean fixed = Modifier.isStatic(f.getModifiers());
                DUE.so(f + " is no static state", !fixed || Modifier.isFinal(f.getModifiers()));
                fields += fixed ? 0 : 1;
            }
            DUE.so("some twenty fields", fields <= 20);
            for (Method m : c.getDeclaredMethods()) {
                DUE.so(m + " has no name of the face", !names.contains(m.getName()));
                DUE.so(m + " has seven parameters at most", m.getParameterCount() <= 7);
            }
        }
    }

    private static void source() throws IOException {
        String text = Files.readString(Path.of("src/main/java/BalconiesParliament.java"));
        String code = text.replaceAll("(?s)/\\*.*?\\*/", "").replaceAll("//[^\n]*", "");
        for (String word : FORBIDDEN) {
            DUE.so("no '" + word + "' in the source", !code.contains(word));
        }
        for (char sign : text.toCharArray()) {
            DUE.so("signs are 1 to 127", sign > 0 && sign < 128);
        }
        // what a run makes is made by constructors, but for what is thrown
        String made = code.replaceAll("new Illegal\\w+Exception|new UnsupportedOperationException", "");
        DUE.is("objects made in the source", made.split("new [A-Z]\\w*\\(", -1).length - 1, 5);
        DUE.is("arrays made in the source", made.split("new \\w+\\[", -1).length - 1, 10);
    }
}
