import java.io.IOException;
import java.lang.reflect.Constructor;
import java.lang.reflect.Field;
import java.lang.reflect.Method;
import java.lang.reflect.Modifier;
import java.nio.file.Files;
import java.nio.file.Path;
import java.util.Arrays;
import java.util.List;
import java.util.Set;
import java.util.TreeSet;
import java.util.regex.Matcher;
import java.util.regex.Pattern;
import java.util.stream.Collectors;

/** The public face, and those rules of LANGUAGE.md that can be seen in the file or in the class. */
public final class LanguageTest {
    private static final Due T = new Due("LanguageTest");
    private static final Path FILE = Path.of("src/main/java/TepidByTreaty.java");

    private static final List<String> FACE = List.of(
        "int aunt(int,int,int)", "int aunts(int,int,int,int)", "int back()", "int best(int,int)", "int breaks(int)",
        "int cell(int,int,int)", "int copy(int,int,int,int,int)", "int count(int)", "int cups(int)", "int drawn(int)",
        "int feed(int)", "int film(int,int)", "int force(int)", "int greediest(int)", "int hotter(int)", "int hour()",
        "int image()", "int minute(int,int)", "int rest()", "int set(int,int,int)", "int settle()", "int share(int)",
        "int sheet(int,int,int)", "int taken(int,int)", "int tells(int,int)", "int text()", "int together(int,int,int)",
        "int told(int,int)", "long chance(int,int,int)");

    public static void main(String[] args) throws IOException {
        face();
        noMoreThanTheFace();
        words(codeOnly(Files.readString(FILE)));
        classes();
        T.end();
    }

    private static void face() {
        Set<String> methods = new TreeSet<>();
        for (Method m : TepidByTreaty.class.getDeclaredMethods()) {
            if (Modifier.isPublic(m.getModifiers())) {
                String types = Arrays.stream(m.getParameterTypes()).map(Class::getName).collect(Collectors.joining(","));
                methods.add(m.getReturnType() + " " + m.getName() + "(" + types + ")");
            }
        }
        T.isTrue("the methods of the face: " + methods, methods.equals(new TreeSet<>(FACE)));
        Set<String> constants = new TreeSet<>();
        for (Field f : TepidByTreaty.class.getDeclaredFields()) {
            if (Modifier.isPublic(f.getModifiers())) constants.add(f.getType() + " " + f.getName());
        }
        T.isTrue("the constants of the face: " + constants,
            constants.equals(Set.of("int NONE", "int BAD", "int STATE", "int FULL", "long NO")));
        Constructor<?>[] made = TepidByTreaty.class.getDeclaredConstructors();
        T.isTrue("one public constructor", made.length == 1 && Modifier.isPublic(made[0].getModifiers()) && made[0].getParameterCount() == 0);
        T.isTrue("the class is public and final", (TepidByTreaty.class.getModifiers() & (Modifier.PUBLIC | Modifier.FINAL)) == (Modifier.PUBLIC | Modifier.FINAL));
    }

    private static void noMoreThanTheFace() {
        Set<String> open = Arrays.stream(TepidByTreaty.class.getDeclaredMethods())
            .filter(m -> Modifier.isPublic(m.getModifiers())).map(Method::getName).collect(Collectors.toSet());
        for (Method m : TepidByTreaty.class.getDeclaredMethods()) {
            boolean isPrivate = Modifier.isPrivate(m.getModifiers());
            T.isTrue(m + " is public or private", isPrivate || Modifier.isPublic(m.getModifiers()));
            T.isTrue(m + " has a name of its own", !isPrivate || !open.contains(m.getName()));
        }
        for (Field f : TepidByTreaty.class.getDeclaredFields()) {
            T.isTrue(f + " is public or private", Modifier.isPrivate(f.getModifiers()) || Modifier.isPublic(f.getModifiers()));
        }
        for (Class<?> c : TepidByTreaty.class.getDeclaredClasses()) {
            T.isTrue(c + " is static and not public", Modifier.isStatic(c.getModifiers()) && !Modifier.isPublic(c.getModifiers()));
            for (Method m : c.getDeclaredMethods()) {
                T.isTrue(m + " has a name of its own", !open.contains(m.getName()));
            }
        }
    }

    /** Comments go, and what stands in texts and signs. */
    private static String codeOnly(String file) {
        String code = Pattern.compile("/\\*.*?\\*/", Pattern.DOTALL).matcher(file).replaceAll("");
        return code.replaceAll("//[^\n]*", "").replaceAll("\"[^\"\n]*\"", "\"\"").replaceAll("'(\\\\.|[^'])'", "' '");
    }

    private static void words(String code) {
        String[] no = {"throw", "try", "catch", "finally", "synchronized", "assert", "import", "package", "lambda", "instanceof",
            "System\\.(?!arraycopy)", "->", "::", "Exact", "Object", "Thread", "Random", "hashCode", "toString", "volatile", "float", "double"};
        for (String word : no) {
            Matcher m = Pattern.compile(word.matches("[a-z]+") ? "\\b" + word + "\\b" : word).matcher(code);
            T.isTrue("nowhere " + word, !m.find());
        }
        T.isTrue("all signs are plain", code.chars().allMatch(c -> c < 128));
        // what a call makes is counted: all rows are made as the object is made
        int constructed = code.indexOf("public int set(");
        Matcher made = Pattern.compile("\\bnew \\w+").matcher(code);
        while (made.find()) {
            boolean inField = code.substring(code.lastIndexOf('\n', made.start()), made.start()).contains("final ");
            T.isTrue(made.group() + " is made once", inField || made.start() < constructed);
        }
    }

    private static void classes() {
        Class<?>[] inside = TepidByTreaty.class.getDeclaredClasses();
        T.isTrue("some twelve classes", inside.length <= 12);
        fields(TepidByTreaty.class);
        for (Class<?> c : inside) {
            fields(c);
        }
    }

    private static void fields(Class<?> c) {
        int own = 0;
        for (Field f : c.getDeclaredFields()) {
            boolean isStatic = Modifier.isStatic(f.getModifiers());
            own += isStatic ? 0 : 1;
            T.isTrue(f + ", static, is final", !isStatic || Modifier.isFinal(f.getModifiers()));
        }
        T.isTrue("some twenty fields in " + c, own <= 20);
        for (Method m : c.getDeclaredMethods()) {
            T.isTrue(m + " takes seven at most", m.getParameterCount() <= 7);
        }
    }
}
