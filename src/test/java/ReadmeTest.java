import java.io.IOException;
import java.lang.reflect.Method;
import java.lang.reflect.Modifier;
import java.nio.file.Files;
import java.nio.file.Path;
import java.util.ArrayList;
import java.util.HashMap;
import java.util.List;
import java.util.Map;
import java.util.TreeMap;
import java.util.TreeSet;
import java.util.regex.Matcher;
import java.util.regex.Pattern;

/** README.md against the document's face and against what the class answers. */
public final class ReadmeTest {
    private static final Path PAGE = Path.of("README.md");
    private static final Path DOCUMENT = Path.of("../shared/DOC.md");
    private static final Pattern FACE_CALL = Pattern.compile("    public int (\\w+)\\(([^)]*)\\);");
    private static final Pattern CALL_ROW = Pattern.compile("\\| `(\\w+)\\(([^)]*)\\)` \\|.*\\|([^|]*)\\|");
    private static final Pattern NEW_OBJECT = Pattern.compile("WhosePage x = new WhosePage\\(\\);");
    private static final Pattern TOLD = Pattern.compile("tell\\(x, \"(.*)\"\\); +// (-?\\d+)\\b.*");
    private static final Pattern ASKED = Pattern.compile("x\\.(\\w+)\\(([-\\d, ]*)\\); +// (-?\\d+)\\b.*");
    private static final Pattern ANSWERED = Pattern.compile(".*; +//.*");
    private static final int EXAMPLES = 2;
    private static final String FLOOR = "j02,5;j13,0;j21,9;to00,7;";
    /** Around the least and the greatest of all that a call may take. */
    private static final int[] NUMBERS = {Integer.MIN_VALUE, -2, -1, 0, 1, 2, 3, 4, 5, 6, 9, 10, 13, 20, 21, 30, 31, 59,
        60, 99, 100, 255, 256, Integer.MAX_VALUE};

    private final Map<String, Method> methods = new TreeMap<>();
    private WhosePage x = new WhosePage();

    private ReadmeTest() {
        for (Method method : WhosePage.class.getDeclaredMethods()) {
            if (Modifier.isPublic(method.getModifiers())) {
                methods.put(method.getName(), method);
            }
        }
    }

    public static void main(String[] args) throws IOException, ReflectiveOperationException {
        ReadmeTest test = new ReadmeTest();
        test.eachCallWithWhatItTakes();
        test.eachCallsRefusals();
        test.examples();
        Check.end();
    }

    private void eachCallWithWhatItTakes() throws IOException {
        Map<String, String> told = new HashMap<>();
        for (Matcher row : rows()) {
            Check.holds("README.md tells " + row.group(1) + " once", told.put(row.group(1), row.group(2)) == null);
        }
        int calls = 0;
        for (String line : Files.readAllLines(DOCUMENT)) {
            Matcher face = FACE_CALL.matcher(line);
            if (face.matches()) {
                calls++;
                String takes = face.group(2).replace("int ", "");
                Check.holds("README.md tells " + face.group(1) + "(" + takes + ")", takes.equals(told.get(face.group(1))));
            }
        }
        Check.due("calls that README.md tells", told.size(), calls);
    }

    private void eachCallsRefusals() throws IOException, ReflectiveOperationException {
        for (Matcher row : rows()) {
            Method method = methods.get(row.group(1));
            if (method != null) {
                String seen = refusalsSeen(method).toString();
                Check.holds(row.group(1) + " refuses " + seen + ", README.md tells " + row.group(3).trim(),
                        seen.equals("[" + row.group(3).trim() + "]"));
            }
        }
    }

    /** All REFUSALS that the call answers, the one nearest 0 first, as the page tells them. */
    private List<Integer> refusalsSeen(Method method) throws ReflectiveOperationException {
        TreeSet<Integer> kinds = new TreeSet<>();
        int[] chosen = new int[method.getParameterCount()];
        int tuples = 1;
        for (int i = 0; i < chosen.length; i++) {
            tuples *= NUMBERS.length;
        }
        for (int tuple = 0; tuple < tuples; tuple++) {
            Object[] given = new Object[chosen.length];
            for (int i = 0, rest = tuple; i < chosen.length; i++, rest /= NUMBERS.length) {
                given[i] = NUMBERS[rest % NUMBERS.length];
            }
            WhosePage one = Check.floorOf(FLOOR);
            method.invoke(one, given);
            int[] counts = Check.refusalsOf(one);
            for (int kind = 1; kind <= counts.length; kind++) {
                if (counts[kind - 1] > 0) {
                    kinds.add(kind);
                }
            }
        }
        List<Integer> codes = new ArrayList<>();
        for (int kind : kinds) {
            codes.add(-kind);
        }
        return codes;
    }

    private void examples() throws IOException, ReflectiveOperationException {
        int objects = 0;
        for (String line : Files.readAllLines(PAGE)) {
            if (NEW_OBJECT.matcher(line).matches()) {
                x = new WhosePage();
                objects++;
            } else if (ANSWERED.matcher(line).matches()) {
                exampleLine(line);
            }
        }
        Check.due("objects in the examples", objects, EXAMPLES);
    }

    private void exampleLine(String line) throws ReflectiveOperationException {
        Matcher told = TOLD.matcher(line);
        Matcher asked = ASKED.matcher(line);
        if (told.matches()) {
            Check.due(line, Check.tell(x, told.group(1)), Integer.parseInt(told.group(2)));
        } else if (asked.matches() && methods.containsKey(asked.group(1))) {
            Object[] given = numbersIn(asked.group(2));
            Check.due(line, (int) methods.get(asked.group(1)).invoke(x, given), Integer.parseInt(asked.group(3)));
        } else {
            Check.holds("an example that can be looked at: " + line, false);
        }
    }

    private static Object[] numbersIn(String list) {
        if (list.isEmpty()) {
            return new Object[0];
        }
        String[] parts = list.split(", ");
        Object[] numbers = new Object[parts.length];
        for (int i = 0; i < parts.length; i++) {
            numbers[i] = Integer.valueOf(parts[i]);
        }
        return numbers;
    }

    private static List<Matcher> rows() throws IOException {
        List<Matcher> rows = new ArrayList<>();
        for (String line : Files.readAllLines(PAGE)) {
            Matcher row = CALL_ROW.matcher(line);
            if (row.matches()) {
                rows.add(row);
            }
        }
        return rows;
    }
}
