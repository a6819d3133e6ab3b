import java.io.IOException;
import java.lang.reflect.Constructor;
import java.lang.reflect.Field;
import java.lang.reflect.Method;
import java.lang.reflect.Modifier;
import java.nio.charset.StandardCharsets;
import java.nio.file.Files;
import java.nio.file.Path;
import java.util.ArrayList;
import java.util.List;
import java.util.Set;
import java.util.TreeSet;
import java.util.regex.Pattern;

/** The document's public face, and those rules of LANGUAGE.md that can be read off the file or the class. */
public final class LanguageTest {
    private static final String FACE = "int airCosts(int) int bestError(int,int) int carryOut() int certify(int) int count(int) int fault() "
        + "int gauge(int,int,int) int lose() int nearest(int,int) int ofGauge(int,int) int ofRing(int,int) int pressure(int) int put(long) "
        + "int reading(int,int) int restore(int) int ring(int) int save(int) int set(int,int) int stack(int) int take(int) int test(int,int) "
        + "int tune(int,int) int undo() int wipe()";
    private static final String CONSTANTS = "AIR=0 ALLOWED=2 AREA=1 BAD_TEXT=-3 BAD_VALUE=-2 NONE=-6 NOT_POSSIBLE=-5 NO_SUCH=-1 TOO_MANY=-4";
    private static final String[] FORBIDDEN = {"\\bthrow", "\\btry\\b", "\\bcatch\\b", "\\bsynchronized\\b", "\\bassert\\b", "->", "::",
        "\\bpackage\\b", "\\bMath\\.\\w+Exact\\b", "\\bequals\\b", "\\bhashCode\\b", "\\bSystem\\.(?!arraycopy)", "\\bThread\\b",
        "\\bRandom\\b", "\\bvar\\b", "\\bstatic \\{", "\\bimport (?!java\\.util\\.(Arrays|ArrayList|List|Iterator);)", "[^\\x00-\\x7f]"};

    public static void main(String[] args) throws IOException, IllegalAccessException {
        face();
        classes();
        words();
        lengths();
        Due.end("LanguageTest");
    }

    private static void face() throws IllegalAccessException {
        Class<?> program = GaugeColumns.class;
        Due.holds("public and final", Modifier.isPublic(program.getModifiers()) && Modifier.isFinal(program.getModifiers()));
        Set<String> shown = new TreeSet<>();
        Set<String> names = new TreeSet<>();
        for (Method method : program.getDeclaredMethods()) {
            if (!Modifier.isPrivate(method.getModifiers())) {
                shown.add(signature(method));
                names.add(method.getName());
            }
        }
        Due.holds("the methods: " + shown, String.join(" ", shown).equals(FACE));
        for (Method method : program.getDeclaredMethods()) {
            boolean hidden = Modifier.isPrivate(method.getModifiers());
            Due.holds("a private method of another name: " + method, !hidden || !names.contains(method.getName()));
        }
        Set<String> constants = new TreeSet<>();
        for (Field field : program.getDeclaredFields()) {
            if (!Modifier.isPrivate(field.getModifiers())) {
                Due.holds("public static final: " + field, field.getModifiers() == (Modifier.PUBLIC | Modifier.STATIC | Modifier.FINAL));
                constants.add(field.getName() + "=" + field.getInt(null));
            }
        }
        Due.holds("the constants: " + constants, String.join(" ", constants).equals(CONSTANTS));
        Constructor<?>[] constructors = program.getDeclaredConstructors();
        Due.is("constructors", constructors.length, 1);
        Due.holds("a public one", Modifier.isPublic(constructors[0].getModifiers()) && constructors[0].getParameterCount() == 0);
    }

    private static String signature(Method method) {
        List<String> types = new ArrayList<>();
        for (Class<?> type : method.getParameterTypes()) {
            types.add(type.getName());
        }
        return method.getReturnType().getName() + " " + method.getName() + "(" + String.join(",", types) + ")";
    }

    private static void classes() {
        List<Class<?>> all = new ArrayList<>(List.of(GaugeColumns.class.getDeclaredClasses()));
        for (Class<?> inside : all) {
            Due.holds("static: " + inside, Modifier.isStatic(inside.getModifiers()));
            Due.holds("not public: " + inside, !Modifier.isPublic(inside.getModifiers()) && !Modifier.isProtected(inside.getModifiers()));
            Due.is("none inside of " + inside, inside.getDeclaredClasses().length, 0);
        }
        all.add(GaugeColumns.class);
        Due.holds("at most 12 classes", all.size() <= 12);
        for (Class<?> one : all) {
            int fields = 0;
            for (Field field : one.getDeclaredFields()) {
                boolean fixed = Modifier.isStatic(field.getModifiers());
                Due.holds("static is final: " + field, !fixed || Modifier.isFinal(field.getModifiers()));
                fields += fixed ? 0 : 1;
            }
            Due.holds("at most 20 fields: " + one, fields <= 20);
            for (Method method : one.getDeclaredMethods()) {
                Due.holds("at most 7 parameters: " + method, method.getParameterCount() <= 7);
            }
        }
    }

    private static String source() throws IOException {
        return Files.readString(Path.of("src/main/java/GaugeColumns.java"), StandardCharsets.UTF_8);
    }

    private static void words() throws IOException {
        String code = source().replaceAll("(?s)/\\*.*?\\*/", "").replaceAll("//[^\n]*", "");
        for (String word : FORBIDDEN) {
            Due.holds("none of " + word, !Pattern.compile(word).matcher(code).find());
        }
        Due.holds("no texts are joined by +", code.indexOf('"') < 0);
    }

    /** A method starts with four or eight spaces and an opening brace, and ends with as many and a closing one. */
    private static void lengths() throws IOException {
        String[] lines = source().split("\n");
        for (int i = 0; i < lines.length; i++) {
            if (lines[i].matches("( {4}| {8})\\w.*\\) \\{") && !lines[i].contains("class ")) {
                String end = lines[i].replaceAll("\\S.*", "") + "}";
                int last = i;
                while (last < lines.length && !lines[last].equals(end)) {
                    last++;
                }
                Due.holds("at most 60 lines: " + lines[i].trim(), last - i < 60);
            }
        }
    }
}
