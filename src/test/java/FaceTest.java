import java.io.IOException;
import java.lang.reflect.Constructor;
import java.lang.reflect.Field;
import java.lang.reflect.Method;
import java.lang.reflect.Modifier;
import java.nio.file.Files;
import java.nio.file.Path;
import java.util.ArrayList;
import java.util.List;
import java.util.TreeSet;
import java.util.regex.Pattern;

/** The class has the document's face and no other, and its source has no word that the language rules out. */
public final class FaceTest {
    private static final String METHODS = "person(int,int) change(int,int,int) told(int,int) standby(int)"
        + " rule(int,int,int) later(int) use(int,int,int) kind(int,int) uses(int,int,int) strike(int) ask(int,int)"
        + " asks(int) candidates() roles(int) tries() role(int) rolesOf(int) marksOf(int) exceptions(int,int)"
        + " ban(int,int,boolean) breach() least(int) badRole() plan(boolean) takeOut(int,int) stopped(int)"
        + " stop(int,int) used(int,int) apply() sheet(int,int) save(int) load(int,int,int) tear(int)"
        + " copy(int,int,int,int,int) asked() count(int) finding() findings(int) digest()";
    private static final String CONSTANTS = "BAD=-1 FULL=-2 FINDING=-3 STATE=-4 SPENT=-6 NONE=-9";
    private static final String SOURCE = "src/main/java/LeastRights.java";
    private static final String[] RULED_OUT = {"\\bthrows?\\b", "\\btry\\b", "\\bcatch\\b", "\\bsynchronized\\b",
        "\\bassert\\b", "\\bpackage\\b", "\\bimport\\b", "\\bprotected\\b", "Exact\\b", "\\bRandom\\b", "\\bThread\\b",
        "\\bSystem\\.(?!arraycopy\\b)", "->", "::", "\\bnew \\w+\\([^;]*\\) *\\{", "\\btoString\\b", "\\bhashCode\\b",
        "\\bequals\\b", "\\bObject\\b"};

    private static final Due DUE = new Due();

    public static void main(String[] args) throws IOException, IllegalAccessException {
        theFace();
        theConstants();
        theClassesInside();
        theSource();
        DUE.end("FaceTest");
    }

    private static void theFace() {
        DUE.holds("public and final", LeastRights.class.getModifiers() == (Modifier.PUBLIC | Modifier.FINAL));
        Constructor<?>[] constructors = LeastRights.class.getDeclaredConstructors();
        DUE.is("constructors", constructors.length, 1);
        DUE.holds("a public constructor of nothing", Modifier.isPublic(constructors[0].getModifiers())
            && constructors[0].getParameterCount() == 0);
        TreeSet<String> open = new TreeSet<>();
        TreeSet<String> names = new TreeSet<>();
        for (Method method : LeastRights.class.getDeclaredMethods()) {
            if (Modifier.isPrivate(method.getModifiers())) continue;
            Class<?> answer = method.getName().equals("digest") ? long.class : int.class;
            DUE.holds(method + " is public", method.getModifiers() == Modifier.PUBLIC);
            DUE.holds(method + " answers " + answer, method.getReturnType() == answer);
            open.add(shape(method));
            names.add(method.getName());
        }
        DUE.holds("the methods are those of the document: " + open, open.equals(new TreeSet<>(List.of(METHODS.split(" ")))));
        for (Class<?> type : allClasses()) {
            for (Method method : type.getDeclaredMethods()) {
                boolean isFace = type == LeastRights.class && Modifier.isPublic(method.getModifiers());
                DUE.holds(method + " has a name of its own", isFace || !names.contains(method.getName()));
                DUE.holds(method + " takes seven at most", method.getParameterCount() <= 7);
            }
        }
    }

    private static String shape(Method method) {
        List<String> types = new ArrayList<>();
        for (Class<?> type : method.getParameterTypes()) types.add(type.getName());
        return method.getName() + "(" + String.join(",", types) + ")";
    }

    private static void theConstants() throws IllegalAccessException {
        TreeSet<String> constants = new TreeSet<>();
        for (Field field : LeastRights.class.getDeclaredFields()) {
            int how = field.getModifiers();
            if (Modifier.isPublic(how)) constants.add(field.getName() + "=" + field.get(null));
            boolean isConstant = how == (Modifier.PUBLIC | Modifier.STATIC | Modifier.FINAL);
            DUE.holds(field + " is private or a constant", isConstant || Modifier.isPrivate(how));
        }
        DUE.holds("the constants are those of the document: " + constants,
            constants.equals(new TreeSet<>(List.of(CONSTANTS.split(" ")))));
    }

    private static List<Class<?>> allClasses() {
        List<Class<?>> all = new ArrayList<>(List.of(LeastRights.class.getDeclaredClasses()));
        all.add(LeastRights.class);
        return all;
    }

    private static void theClassesInside() {
        DUE.holds("twelve classes at most", allClasses().size() <= 12);
        for (Class<?> type : allClasses()) {
            boolean isInside = type != LeastRights.class;
            DUE.holds(type + " is static", !isInside || Modifier.isStatic(type.getModifiers()));
            int fields = 0;
            for (Field field : type.getDeclaredFields()) {
                boolean isStatic = Modifier.isStatic(field.getModifiers());
                DUE.holds(field + " is final if static", !isStatic || Modifier.isFinal(field.getModifiers()));
                if (!isStatic) fields++;
            }
            DUE.holds(type + " has twenty fields at most", fields <= 20);
        }
    }

    private static void theSource() throws IOException {
        String text = Files.readString(Path.of(SOURCE)).replaceAll("(?s)/\\*.*?\\*/", "").replaceAll("//[^\n]*", "");
        for (String word : RULED_OUT) {
            DUE.holds("no " + word, !Pattern.compile(word).matcher(text).find());
        }
    }
}
