import java.lang.reflect.Constructor;
import java.lang.reflect.Field;
import java.lang.reflect.Member;
import java.lang.reflect.Method;
import java.lang.reflect.Modifier;
import java.nio.file.Files;
import java.nio.file.Path;
import java.util.ArrayList;
import java.util.Arrays;
import java.util.List;
import java.util.Set;
import java.util.TreeSet;
import java.util.regex.Matcher;
import java.util.regex.Pattern;
import java.util.stream.Collectors;

/**
 * The class has the face that the document shows, line by line, and nothing else that can be seen from
 * outside; and its source keeps to those rules of ../shared/LANGUAGE.md that can be read off it.
 */
public final class FaceTests {
    private static final Path DOCUMENT = Path.of("../shared/DOC.md");
    private static final Path SOURCE = Path.of("src/main/java/LedgerStream.java");

    private static int wrong = 0;

    private FaceTests() {
    }

    public static void main(String[] args) throws Exception {
        checkFace();
        checkHeadings();
        checkClasses();
        checkSource();
        System.out.println(wrong + " wrong");
        if (wrong != 0) {
            System.exit(1);
        }
    }

    private static void must(boolean holds, String what) {
        if (!holds) {
            wrong++;
            System.out.println("not so: " + what);
        }
    }

    private static void checkFace() throws Exception {
        Set<String> due = documentedFace();
        Set<String> got = new TreeSet<>();
        for (Method method : LedgerStream.class.getDeclaredMethods()) {
            if (!Modifier.isPrivate(method.getModifiers())) {
                got.add(faceOf(method));
            }
        }
        for (Constructor<?> constructor : LedgerStream.class.getDeclaredConstructors()) {
            must(Modifier.isPublic(constructor.getModifiers()), "public: " + constructor);
            got.add("public LedgerStream()" + (constructor.getParameterCount() == 0 ? "" : "?"));
        }
        must(due.size() == 41, "the document shows 41 members, not " + due.size());
        must(got.equals(due), "the face is the document's: " + got + " and " + due);
        must(LedgerStream.class.getModifiers() == (Modifier.PUBLIC | Modifier.FINAL), "public and final");
    }

    private static Set<String> documentedFace() throws Exception {
        String face = Files.readString(DOCUMENT).split("```java")[1].split("```")[0];
        Set<String> lines = new TreeSet<>();
        for (String line : face.split("\n")) {
            if (line.startsWith("    public ")) {
                String plain = line.strip().replaceAll(";$", "").replaceAll("(int|boolean) \\w+([,)])", "$1$2");
                lines.add(plain);
            }
        }
        return lines;
    }

    private static String faceOf(Method method) {
        String parameters = Arrays.stream(method.getParameterTypes()).map(Class::getSimpleName)
            .collect(Collectors.joining(", "));
        String thrown = Arrays.stream(method.getExceptionTypes()).map(Class::getSimpleName)
            .collect(Collectors.joining(", "));
        return Modifier.toString(method.getModifiers()) + " " + method.getReturnType().getSimpleName() + " "
            + method.getName() + "(" + parameters + ")" + (thrown.isEmpty() ? "" : " throws " + thrown);
    }

    /** Ahead of the calls that the document names together, the source has the heading that it says. */
    private static void checkHeadings() throws Exception {
        List<String> due = new ArrayList<>();
        for (String line : Files.readAllLines(DOCUMENT)) {
            Matcher said = Pattern.compile("Ahead of the calls (.*) the interface says: (---- .*)\\.").matcher(line);
            if (said.matches()) {
                due.add(said.group(2) + ": " + said.group(1).replace("`", ""));
            }
        }
        List<String> got = headings();
        must(due.size() == 6, "the document has 6 headings, not " + due.size());
        must(got.equals(due), "the headings are the document's: " + got + " and " + due);
    }

    /** Each heading of the source with the public methods between it and the next one. */
    private static List<String> headings() throws Exception {
        List<String> found = new ArrayList<>();
        String heading = "";
        List<String> calls = new ArrayList<>();
        for (String line : (Files.readString(SOURCE) + "\n    // ----").split("\n")) {
            Matcher call = Pattern.compile("    public \\w+ (\\w+)\\(.*").matcher(line);
            if (call.matches()) {
                calls.add(call.group(1));
            } else if (line.startsWith("    // ----")) {
                if (!calls.isEmpty()) {
                    found.add(heading + ": " + String.join(", ", calls));
                }
                heading = line.substring(7);
                calls.clear();
            }
        }
        return found;
    }

    private static void checkClasses() {
        List<Class<?>> classes = new ArrayList<>(List.of(LedgerStream.class.getDeclaredClasses()));
        must(classes.size() <= 11, "some twelve classes at most");
        for (Class<?> inside : classes) {
            must(Modifier.isStatic(inside.getModifiers()) && !Modifier.isPublic(inside.getModifiers()),
                inside + " is static, and private or package-visible");
        }
        classes.add(LedgerStream.class);
        Set<String> publicNames = Arrays.stream(LedgerStream.class.getDeclaredMethods())
            .filter(method -> Modifier.isPublic(method.getModifiers())).map(Member::getName)
            .collect(Collectors.toCollection(TreeSet::new));
        for (Class<?> one : classes) {
            checkMembers(one, publicNames);
        }
    }

    private static void checkMembers(Class<?> one, Set<String> publicNames) {
        int fields = 0;
        for (Field field : one.getDeclaredFields()) {
            must(Modifier.isPrivate(field.getModifiers()), field + " is private");
            must(!Modifier.isStatic(field.getModifiers()) || Modifier.isFinal(field.getModifiers()),
                field + " is final if it is static");
            fields += Modifier.isStatic(field.getModifiers()) ? 0 : 1;
        }
        must(fields <= 20, one + " has some twenty fields at most");
        for (Method method : one.getDeclaredMethods()) {
            must(method.getParameterCount() <= 7, method + " takes at most seven parameters");
            must(Modifier.isPublic(method.getModifiers()) || !publicNames.contains(method.getName()),
                method + " has no public one's name");
        }
    }

    private static void checkSource() throws Exception {
        String source = Files.readString(SOURCE);
        must(source.chars().allMatch(sign -> sign < 128), "the source is plain ASCII");
        String code = source.replaceAll("(?s)/\\*.*?\\*/", "").replaceAll("//[^\n]*", "")
            .replaceAll("\"[^\"\n]*\"", "\"\"");
        for (String banned : List.of("->", "::", "\\btry\\b", "\\bcatch\\b", "\\bfinally\\b", "\\bsynchronized\\b",
                "\\bassert\\b", "\\bpackage\\b", "\\bprotected\\b", "Exact\\b", "\\bSystem\\b", "\\bThread\\b",
                "\\bequals\\b", "\\bhashCode\\b", "\\btoString\\b", "\\binstanceof\\b", "\\bObject\\b", "\\bvar\\b")) {
            must(!Pattern.compile(banned).matcher(code).find(), "the source has no " + banned);
        }
        must(code.lines().filter(line -> line.startsWith("import ")).collect(Collectors.toList())
            .equals(List.of("import java.util.NoSuchElementException;")), "the document's import alone");
        checkThrows(code);
        checkLengths(code);
    }

    private static void checkThrows(String code) {
        Matcher thrown = Pattern.compile("\\bthrow\\b[^;]*;").matcher(code);
        while (thrown.find()) {
            must(thrown.group().matches("throw new (IllegalState|IllegalArgument|IndexOutOfBounds|Arithmetic"
                + "|UnsupportedOperation|NoSuchElement)(Exception)?\\(\"\"\\);"), thrown.group());
        }
    }

    /** A method begins where its brace opens at depth 1 or 2, behind a parenthesis or a throws clause. */
    private static void checkLengths(String code) {
        int start = -1;
        String indent = "";
        String[] lines = code.split("\n", -1);
        for (int i = 0; i < lines.length; i++) {
            Matcher head = Pattern.compile("^( {4}| {8})(\\w[\\w\\[\\] ]*\\(.*)$").matcher(lines[i]);
            if (head.matches() && !lines[i].matches("^ *(if|for|while|return|throw|switch)\\b.*")
                    && !lines[i].endsWith(";")) {
                start = i;
                indent = head.group(1);
            }
            if (start >= 0 && lines[i].equals(indent + "}")) {
                must(i - start < 60, "the method at line " + (start + 1) + " stays short");
                start = -1;
            }
        }
    }
}
