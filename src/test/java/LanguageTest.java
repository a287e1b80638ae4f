import java.io.IOException;
import java.lang.reflect.Field;
import java.lang.reflect.Method;
import java.lang.reflect.Modifier;
import java.nio.file.Files;
import java.nio.file.Path;
import java.util.Arrays;
import java.util.Set;
import java.util.TreeSet;
import java.util.regex.Matcher;
import java.util.regex.Pattern;
import java.util.stream.Collectors;

/** The rules of LANGUAGE.md that can be seen from outside or in the text, and the document's face. */
public final class LanguageTest {
    private static final Path SOURCE = Path.of("src/main/java/WhosePage.java");
    private static final Path DOCUMENT = Path.of("../shared/DOC.md");
    private static final Pattern FACE_METHOD = Pattern.compile("    public int (\\w+)\\(([^)]*)\\);");
    private static final String[] RULED_OUT = {"throw", "throws", "try", "catch", "synchronized", "assert",
        "package", "protected", "lambda", "Object", "hashCode", "toString", "equals", "System.out", "Random",
        "Thread", "Exact", "double", "float"};
    private static final int LONGEST_METHOD = 60;
    private static final int MOST_CLASSES = 12;
    private static final int MOST_FIELDS = 20;
    private static final int MOST_PARAMETERS = 7;

    public static void main(String[] args) throws IOException {
        face();
        members(WhosePage.class);
        for (Class<?> inside : WhosePage.class.getDeclaredClasses()) {
            Check.due(inside.getSimpleName() + " is static", inside.getModifiers() & Modifier.STATIC, Modifier.STATIC);
            members(inside);
        }
        Check.due("classes within the limit", WhosePage.class.getDeclaredClasses().length < MOST_CLASSES ? 0 : 1, 0);
        text(withoutComments(Files.readString(SOURCE)));
        Check.end();
    }

    private static void face() throws IOException {
        Set<String> due = new TreeSet<>();
        Matcher told = FACE_METHOD.matcher(Files.readString(DOCUMENT));
        while (told.find()) {
            long parameters = told.group(2).isEmpty() ? 0 : told.group(2).split(",").length;
            due.add(told.group(1) + "/" + parameters);
        }
        Set<String> is = Arrays.stream(WhosePage.class.getDeclaredMethods())
                .filter(method -> Modifier.isPublic(method.getModifiers()))
                .map(method -> method.getName() + "/" + method.getParameterCount())
                .collect(Collectors.toCollection(TreeSet::new));
        Check.due("methods of the face", due.size(), 32);
        Check.due("the face " + is + " is that of the document " + due, is.equals(due) ? 0 : 1, 0);
        Check.due("one constructor", WhosePage.class.getDeclaredConstructors().length, 1);
        int flags = WhosePage.class.getModifiers();
        Check.due("public and final", Modifier.isPublic(flags) && Modifier.isFinal(flags) ? 0 : 1, 0);
        for (Method method : WhosePage.class.getDeclaredMethods()) {
            boolean fits = Modifier.isPublic(method.getModifiers()) || Modifier.isPrivate(method.getModifiers());
            Check.due(method.getName() + " is public or private", fits ? 0 : 1, 0);
        }
        for (Field field : WhosePage.class.getDeclaredFields()) {
            Check.due(field.getName() + " is private", Modifier.isPrivate(field.getModifiers()) ? 0 : 1, 0);
        }
    }

    private static void members(Class<?> of) {
        Set<String> face = Arrays.stream(WhosePage.class.getDeclaredMethods())
                .filter(method -> Modifier.isPublic(method.getModifiers()))
                .map(Method::getName).collect(Collectors.toSet());
        for (Method method : of.getDeclaredMethods()) {
            boolean own = of == WhosePage.class && Modifier.isPublic(method.getModifiers());
            Check.due(method.getName() + " bears no name of the face", !own && face.contains(method.getName()) ? 1 : 0, 0);
            Check.due(method.getName() + " takes few parameters", method.getParameterCount() > MOST_PARAMETERS ? 1 : 0, 0);
        }
        int fields = 0;
        for (Field field : of.getDeclaredFields()) {
            boolean shared = Modifier.isStatic(field.getModifiers());
            Check.due(field.getName() + " is no changing static", shared && !Modifier.isFinal(field.getModifiers()) ? 1 : 0, 0);
            fields += shared ? 0 : 1;
        }
        Check.due("fields of " + of.getSimpleName() + " within the limit", fields <= MOST_FIELDS ? 0 : 1, 0);
    }

    private static String withoutComments(String source) {
        return source.replaceAll("(?s)/\\*.*?\\*/", "").replaceAll("//[^\n]*", "").replaceAll("\"[^\"]*\"", "\"\"");
    }

    private static void text(String source) {
        for (String word : RULED_OUT) {
            boolean found = Pattern.compile("\\b" + Pattern.quote(word) + "\\b").matcher(source).find();
            Check.due("uses of " + word, found ? 1 : 0, 0);
        }
        Check.due("lambdas and method references", source.contains("->") || source.contains("::") ? 1 : 0, 0);
        int methodBegan = -1;
        String[] lines = source.split("\n");
        for (int i = 0; i < lines.length; i++) {
            String line = lines[i];
            boolean inField = line.matches("\\s+(private )?final [\\w\\[\\]]+ \\w+ = new .*;");
            Check.due("rows are made in constructors alone, line: " + line,
                    line.contains("new ") && !inField ? 1 : 0, 0);
            if (line.matches("\\s+[\\w ]+\\(.*\\) \\{") && !line.matches("\\s+(if|for|while|switch)\\b.*")) {
                methodBegan = i;
            }
            if (methodBegan >= 0 && i - methodBegan > LONGEST_METHOD && line.matches("    (    )?\\}")) {
                Check.due("lines of the method " + lines[methodBegan], i - methodBegan, LONGEST_METHOD);
            }
            if (line.matches("    (    )?\\}")) {
                methodBegan = -1;
            }
        }
    }
}
