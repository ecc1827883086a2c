import java.io.ByteArrayOutputStream;
import java.io.IOException;
import java.io.PrintStream;
import java.lang.reflect.Method;
import java.lang.reflect.Modifier;
import java.nio.file.Files;
import java.nio.file.Path;
import java.util.ArrayList;
import java.util.List;
import java.util.regex.Matcher;
import java.util.regex.Pattern;

/** The README's program answers what its comments say, and its table has every call with as many numbers. */
public final class ReadmeTest {
    private static final Path README = Path.of("README.md");
    private static final Pattern PROGRAM = Pattern.compile("(?s)```java\n(.*?)```");
    private static final Pattern PRINTED = Pattern.compile("println\\((.*)\\); *// (-?\\d+):");
    private static final Pattern ROW = Pattern.compile("(?m)^\\| `(\\w+)\\((.*?)\\)` \\|");

    private static final Due DUE = new Due();

    public static void main(String[] args) throws IOException, ReflectiveOperationException {
        String text = Files.readString(README);
        Matcher program = PROGRAM.matcher(text);
        boolean isThere = program.find();
        DUE.holds("a program in the README", isThere);
        if (isThere) theProgram(program.group(1));
        theTable(text);
        DUE.end("ReadmeTest");
    }

    private static void theProgram(String source) throws ReflectiveOperationException {
        List<String> calls = new ArrayList<>();
        List<Long> answers = new ArrayList<>();
        Matcher said = PRINTED.matcher(source);
        while (said.find()) {
            calls.add(said.group(1));
            answers.add(Long.parseLong(said.group(2)));
        }
        DUE.is("lines that print, each with its answer", source.split("println").length - 1, calls.size());
        String[] printed = run().split("\n");
        DUE.is("lines that were printed", printed.length, calls.size());
        for (int k = 0; k < printed.length && k < calls.size(); k++) {
            DUE.is("in the README, " + calls.get(k), Long.parseLong(printed[k].trim()), answers.get(k));
        }
    }

    /** What the program prints; .ci/run has compiled it, as it stands in the README. */
    private static String run() throws ReflectiveOperationException {
        Method program = Class.forName("Example").getMethod("main", String[].class);
        PrintStream before = System.out;
        ByteArrayOutputStream told = new ByteArrayOutputStream();
        System.setOut(new PrintStream(told, true));
        try {
            program.invoke(null, (Object) new String[0]);
        } finally {
            System.setOut(before);
        }
        return told.toString();
    }

    private static void theTable(String text) {
        List<String> rows = new ArrayList<>();
        Matcher row = ROW.matcher(text);
        while (row.find()) rows.add(row.group(1) + " " + (row.group(2).isEmpty() ? 0 : row.group(2).split(",").length));
        int face = 0;
        for (Method method : LeastRights.class.getDeclaredMethods()) {
            if (!Modifier.isPublic(method.getModifiers())) continue;
            face++;
            String call = method.getName() + " " + method.getParameterCount();
            DUE.holds("a row of the README for " + call, rows.contains(call));
        }
        DUE.is("rows for calls in the README", rows.size(), face);
    }
}
