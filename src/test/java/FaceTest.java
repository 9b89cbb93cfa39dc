import java.io.IOException;
import java.lang.reflect.Constructor;
import java.lang.reflect.Field;
import java.lang.reflect.Method;
import java.lang.reflect.Modifier;
import java.nio.file.Files;
import java.nio.file.Path;
import java.util.ArrayList;
import java.util.Arrays;
import java.util.List;
import java.util.Set;
import java.util.TreeSet;
import java.util.regex.Matcher;
import java.util.regex.Pattern;

/** The public face is the document's, no more and no less, and the source keeps what LANGUAGE.md says of words. */
public final class FaceTest {
    private static final String[] METHODS = {
        "room(int)", "reading(int,int,int)", "light(int,int,boolean)", "sheet(int,int,int,int)", "sisters(int,int)",
        "past(int,int,int)", "of(int,int)", "show(int,int,int)", "lend(int,int,int)", "lacks(int,int)", "cancel(int)",
        "booking(int,int)", "thread(int,int,int)", "cut()", "pastOf(int,boolean)", "spent(int,int,boolean)",
        "left(int,boolean)", "step(int,int,boolean)", "wall(int,int,int)", "strip()", "hung(int)", "worth()",
        "spares(int)", "hang()", "many(int)", "keep()", "back()"};
    private static final String[] CONSTANTS = {"NUMBER=-1", "FULL=-2", "TWICE=-3", "NONE=-4", "NOTHING=-1000000"};
    private static final String[] FORBIDDEN = {"throw", "try", "catch", "synchronized", "assert", "import", "package",
        "protected", "volatile", "native", "transient"};
    /** All of the library that the source uses; LANGUAGE.md, rule 4, says what may be added here. */
    private static final Set<String> LIBRARY = Set.of("Math.max", "Math.min", "Math.abs", "System.arraycopy");
    private static final int MOST_PARAMETERS = 7;

    private static int wrong = 0;

    private static void check(boolean good, String what) {
        if (!good) {
            wrong++;
            System.out.println(what);
        }
    }

    public static void main(String[] args) throws IOException, IllegalAccessException {
        check(Modifier.isPublic(LightHours.class.getModifiers()), "the class isn't public");
        check(Modifier.isFinal(LightHours.class.getModifiers()), "the class isn't final");
        methods();
        constants();
        constructors();
        nested();
        bounds(LightHours.class);
        for (Class<?> inside : LightHours.class.getDeclaredClasses()) {
            bounds(inside);
        }
        words();
        System.out.println(wrong == 0 ? "the face is the document's" : wrong + " faults in the face");
        if (wrong != 0) {
            System.exit(1);
        }
    }

    private static void methods() {
        Set<String> found = new TreeSet<>();
        Set<String> publicNames = new TreeSet<>();
        for (Method m : LightHours.class.getDeclaredMethods()) {
            if (Modifier.isPublic(m.getModifiers())) {
                List<String> types = new ArrayList<>();
                for (Class<?> type : m.getParameterTypes()) {
                    types.add(type.getName());
                }
                found.add(m.getName() + "(" + String.join(",", types) + ")");
                publicNames.add(m.getName());
                check(m.getReturnType() == int.class, m.getName() + " doesn't answer an int");
                check(!Modifier.isStatic(m.getModifiers()), m.getName() + " is static");
            } else {
                check(Modifier.isPrivate(m.getModifiers()), m.getName() + " is neither public nor private");
            }
        }
        check(found.equals(new TreeSet<>(Arrays.asList(METHODS))), "the public methods are " + found);
        for (Class<?> inside : LightHours.class.getDeclaredClasses()) {
            for (Method m : inside.getDeclaredMethods()) {
                check(!publicNames.contains(m.getName()), inside.getName() + "." + m.getName() + " bears a public name");
            }
        }
        for (Method m : LightHours.class.getDeclaredMethods()) {
            boolean bears = Modifier.isPrivate(m.getModifiers()) && publicNames.contains(m.getName());
            check(!bears, "the private " + m.getName() + " bears a public name");
        }
    }

    private static void constants() throws IllegalAccessException {
        Set<String> found = new TreeSet<>();
        for (Field f : LightHours.class.getDeclaredFields()) {
            if (Modifier.isPublic(f.getModifiers())) {
                boolean constant = Modifier.isStatic(f.getModifiers()) && Modifier.isFinal(f.getModifiers());
                check(constant, f.getName() + " is public and no constant");
                check(f.getType() == int.class, f.getName() + " is no int");
                found.add(f.getName() + "=" + f.getInt(null));
            } else {
                check(Modifier.isPrivate(f.getModifiers()), f.getName() + " is neither public nor private");
            }
        }
        check(found.equals(new TreeSet<>(Arrays.asList(CONSTANTS))), "the constants are " + found);
    }

    private static void constructors() {
        Constructor<?>[] all = LightHours.class.getDeclaredConstructors();
        boolean one = all.length == 1 && all[0].getParameterCount() == 0 && Modifier.isPublic(all[0].getModifiers());
        check(one, "the constructors are " + Arrays.toString(all));
    }

    private static void nested() {
        Class<?>[] inside = LightHours.class.getDeclaredClasses();
        check(inside.length <= 11, "there are " + inside.length + " classes inside");
        for (Class<?> c : inside) {
            check(Modifier.isStatic(c.getModifiers()), c.getName() + " isn't static");
            check(!Modifier.isPublic(c.getModifiers()), c.getName() + " is public");
            check(c.getDeclaredFields().length <= 20, c.getName() + " has too many fields");
        }
    }

    /** Rule 5: static fields are final; rule 11: a method takes at most seven parameters. */
    private static void bounds(Class<?> c) {
        for (Field f : c.getDeclaredFields()) {
            boolean good = !Modifier.isStatic(f.getModifiers()) || Modifier.isFinal(f.getModifiers());
            check(good, c.getName() + "." + f.getName() + " is static and not final");
        }
        for (Method m : c.getDeclaredMethods()) {
            check(m.getParameterCount() <= MOST_PARAMETERS, c.getName() + "." + m.getName() + " takes too much");
        }
    }

    private static void words() throws IOException {
        String source = Files.readString(Path.of("src/main/java/LightHours.java"));
        String code = source.replaceAll("(?s)/\\*.*?\\*/", " ").replaceAll("//[^\n]*", " ");
        Set<String> words = new TreeSet<>(Arrays.asList(code.split("[^A-Za-z0-9_]+")));
        for (String word : FORBIDDEN) {
            check(!words.contains(word), "the source has the word " + word);
        }
        Matcher used = Pattern.compile("\\b[A-Z]\\w*\\.\\w+(?=\\()").matcher(code);
        while (used.find()) {
            check(LIBRARY.contains(used.group()), "the source uses " + used.group());
        }
        check(!code.contains("->"), "the source has an arrow");
        check(!code.contains("::"), "the source has a method reference");
        check(source.chars().allMatch(c -> c == '\n' || c >= 32 && c <= 126), "the source has a sign beyond ASCII");
    }
}
