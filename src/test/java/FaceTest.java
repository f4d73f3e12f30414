import java.lang.reflect.Constructor;
import java.lang.reflect.Field;
import java.lang.reflect.Method;
import java.lang.reflect.Modifier;
import java.nio.charset.StandardCharsets;
import java.nio.file.Files;
import java.nio.file.Path;
import java.util.Arrays;
import java.util.Set;
import java.util.TreeSet;
import java.util.regex.Matcher;
import java.util.regex.Pattern;

/** The face is the document's and no more, and the source keeps to what the language's rules leave. */
public final class FaceTest {
    private static final Set<String> FACE = new TreeSet<>(Arrays.asList(
        "int type(int)", "int clear()", "int put(int,int)", "int empties(int,int)",
        "int comes(int,int,int)", "int goes(int,int,int)", "int moves(int,int,int,int,int,int)",
        "int copies(int,int,int,int,int,int)", "int back()", "int terms(int,int)",
        "int term(int,int,int,int)", "int shown(int,int,int)", "int value(int,int)",
        "int why(int,int)", "int deep(int,int)", "int users(int,int)", "int count(int)",
        "int told(int)", "long digest()"));

    private static int wrong = 0;

    public static void main(String[] args) throws Exception {
        checkFace();
        checkFields(SheetRefs.class);
        for (Class<?> inside : SheetRefs.class.getDeclaredClasses()) {
            checkInside(inside);
            checkFields(inside);
        }
        checkSource(Files.readString(Path.of("src/main/java/SheetRefs.java"), StandardCharsets.US_ASCII));
        System.out.println(wrong == 0 ? "the face is as told" : wrong + " things are not as told");
        if (wrong != 0) {
            System.exit(1);
        }
    }

    private static void checkFace() {
        Set<String> found = new TreeSet<>();
        for (Method m : SheetRefs.class.getDeclaredMethods()) {
            if (m.isSynthetic()) {
                continue;
            }
            if (!Modifier.isPrivate(m.getModifiers())) {
                found.add(told(m));
                expect(Modifier.isPublic(m.getModifiers()), m + " is not public");
            } else {
                expect(!isFaceName(m.getName()), m + " bears a public name");
            }
        }
        expect(found.equals(FACE), "methods are " + found);
        Constructor<?>[] constructors = SheetRefs.class.getDeclaredConstructors();
        expect(constructors.length == 1 && constructors[0].getParameterCount() == 0
            && Modifier.isPublic(constructors[0].getModifiers()), "constructors");
        expect(Modifier.isFinal(SheetRefs.class.getModifiers()), "class is not final");
        Set<String> constants = new TreeSet<>();
        for (Field f : SheetRefs.class.getDeclaredFields()) {
            if (!Modifier.isPrivate(f.getModifiers())) {
                constants.add(f.getName());
            }
        }
        Set<String> want = new TreeSet<>(Arrays.asList("NONE", "BAD", "NO", "FULL"));
        expect(constants.equals(want), "constants are " + constants);
    }

    private static void checkInside(Class<?> inside) {
        int modifiers = inside.getModifiers();
        expect(Modifier.isStatic(modifiers), inside + " is not static");
        expect(!Modifier.isPublic(modifiers) && !Modifier.isProtected(modifiers), inside + " is public");
        for (Method m : inside.getDeclaredMethods()) {
            expect(!isFaceName(m.getName()), m + " bears a public name");
            expect(m.getParameterCount() <= 7, m + " has too many parameters");
        }
    }

    private static void checkFields(Class<?> c) {
        int own = 0;
        for (Field f : c.getDeclaredFields()) {
            if (Modifier.isStatic(f.getModifiers())) {
                expect(Modifier.isFinal(f.getModifiers()), f + " is not final");
            } else {
                own++;
            }
        }
        expect(own <= 20, c + " has too many fields");
    }

    private static void checkSource(String source) {
        String bare = source.replaceAll("(?s)/\\*.*?\\*/", "").replaceAll("//[^\n]*", "")
            .replaceAll("'[^']'", "0").replaceAll("\"[^\"]*\"", "0");
        String words = "throw|throws|try|catch|finally|synchronized|assert|volatile|double|float|package|"
            + "Object|Exception|Thread|Random|equals|hashCode|toString|static\\s*\\{|->|::";
        Matcher m = Pattern.compile("(?<!\\w)(" + words + ")(?!\\w)").matcher(bare);
        while (m.find()) {
            expect(false, "the source has " + m.group());
        }
        Matcher imports = Pattern.compile("import [^;]*;").matcher(bare);
        while (imports.find()) {
            expect(imports.group().equals("import java.util.Arrays;"), imports.group());
        }
        expect(!Pattern.compile("Exact\\b").matcher(bare).find(), "a function whose name ends in Exact");
    }

    private static String told(Method m) {
        StringBuilder told = new StringBuilder(m.getReturnType() + " " + m.getName() + "(");
        for (Class<?> parameter : m.getParameterTypes()) {
            told.append(told.charAt(told.length() - 1) == '(' ? "" : ",").append(parameter);
        }
        return told.append(")").toString();
    }

    private static boolean isFaceName(String name) {
        return FACE.stream().anyMatch(f -> f.contains(" " + name + "("));
    }

    private static void expect(boolean holds, String otherwise) {
        if (!holds) {
            wrong++;
            System.out.println(otherwise);
        }
    }
}
