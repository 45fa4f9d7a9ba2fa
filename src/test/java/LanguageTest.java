import java.lang.reflect.Field;
import java.lang.reflect.Method;
import java.lang.reflect.Modifier;
import java.nio.charset.StandardCharsets;
import java.nio.file.Files;
import java.nio.file.Path;
import java.util.Arrays;
import java.util.List;
import java.util.Set;
import java.util.TreeSet;
import java.util.regex.Matcher;
import java.util.regex.Pattern;
import java.util.stream.Collectors;

/** The public face against the document, and those of LANGUAGE.md's rules that can be told by looking. */
public final class LanguageTest {
    private static final Check CHECK = new Check("LanguageTest");
    private static final Path SOURCE = Path.of("src", "main", "java", "ThrownRosesReturn.java");
    private static final Class<?> MAIN = ThrownRosesReturn.class;

    public static void main(String[] args) throws Exception {
        List<Face.Method> face = Face.methods(args.length > 0 ? args[0] : "../shared");
        String source = Files.readString(SOURCE, StandardCharsets.ISO_8859_1);
        String code = source.replaceAll("(?s)/\\*.*?\\*/", "").replaceAll("//[^\n]*", "")
                .replaceAll("\"[^\"\n]*\"", "\"\"").replaceAll("'[^'\n]*'", "' '");
        faceIsAsPrinted(face);
        nestedClassesAreStatic();
        noNameTwice(face);
        wordsThatMayNotStand(code);
        libraryThatMayStand(code);
        nothingIsMadeLater(code);
        sizes(source);
        CHECK.close();
    }

    private static String signature(Method method) {
        String types = Arrays.stream(method.getParameterTypes()).map(Class::getSimpleName).collect(Collectors.joining(", "));
        return method.getReturnType().getSimpleName() + " " + method.getName() + "(" + types + ")";
    }

    private static void faceIsAsPrinted(List<Face.Method> face) throws Exception {
        Set<String> printed = face.stream().map(Face.Method::signature).collect(Collectors.toCollection(TreeSet::new));
        Set<String> open = Arrays.stream(MAIN.getDeclaredMethods()).filter(m -> !Modifier.isPrivate(m.getModifiers()))
                .map(LanguageTest::signature).collect(Collectors.toCollection(TreeSet::new));
        CHECK.holds("rule 1: methods " + open + " as printed", open.equals(printed));
        for (Method method : MAIN.getDeclaredMethods()) {
            if (!Modifier.isPrivate(method.getModifiers())) {
                CHECK.due("rule 1: " + method, method.getModifiers(), Modifier.PUBLIC);
            }
        }
        CHECK.due("rule 1: the class", MAIN.getModifiers(), Modifier.PUBLIC | Modifier.FINAL);
        CHECK.due("rule 1: constructors", MAIN.getDeclaredConstructors().length, 1);
        CHECK.due("rule 1: the constructor", MAIN.getDeclaredConstructor().getModifiers(), Modifier.PUBLIC);
        for (Field field : MAIN.getDeclaredFields()) {
            boolean isConstant = field.getName().equals("NONE")
                    && field.getModifiers() == (Modifier.PUBLIC | Modifier.STATIC | Modifier.FINAL);
            CHECK.holds("rule 1: " + field, isConstant || Modifier.isPrivate(field.getModifiers()));
        }
    }

    private static void nestedClassesAreStatic() {
        for (Class<?> nested : MAIN.getDeclaredClasses()) {
            CHECK.holds("rule 2: " + nested, Modifier.isStatic(nested.getModifiers())
                    && !Modifier.isPublic(nested.getModifiers()) && !Modifier.isProtected(nested.getModifiers()));
            CHECK.due("rule 2: classes in " + nested, nested.getDeclaredClasses().length, 0);
        }
        for (Class<?> one : classes()) {
            for (Field field : one.getDeclaredFields()) {
                CHECK.holds("rule 5: " + field,
                        !Modifier.isStatic(field.getModifiers()) || Modifier.isFinal(field.getModifiers()));
            }
        }
    }

    private static List<Class<?>> classes() {
        List<Class<?>> classes = new java.util.ArrayList<>(Arrays.asList(MAIN.getDeclaredClasses()));
        classes.add(MAIN);
        return classes;
    }

    private static void noNameTwice(List<Face.Method> face) {
        Set<String> names = face.stream().map(Face.Method::name).collect(Collectors.toSet());
        for (Class<?> one : classes()) {
            for (Method method : one.getDeclaredMethods()) {
                if (!Modifier.isPublic(method.getModifiers())) {
                    CHECK.holds("rule 1: the name of " + method, !names.contains(method.getName()));
                }
                CHECK.holds("rule 11: " + method, method.getParameterCount() <= 7);
                CHECK.holds("rule 6: " + method, !Set.of("equals", "hashCode", "toString").contains(method.getName()));
            }
        }
    }

    private static void wordsThatMayNotStand(String code) {
        for (String word : List.of("throw", "throws", "try", "catch", "finally", "synchronized", "assert", "import", "package",
                "protected", "volatile", "transient", "native", "record", "instanceof", "Object", "var", "yield")) {
            CHECK.holds("the word " + word, !Pattern.compile("\\b" + word + "\\b").matcher(code).find());
        }
        CHECK.holds("lambdas, method references and arrows", !code.contains("->") && !code.contains("::"));
        CHECK.holds("a static block", !Pattern.compile("\\bstatic\\s*\\{").matcher(code).find());
        CHECK.holds("signs past 127", code.chars().allMatch(sign -> sign < 128));
    }

    private static void libraryThatMayStand(String code) {
        Set<String> known = classes().stream().map(Class::getSimpleName).collect(Collectors.toCollection(TreeSet::new));
        known.addAll(List.of("String", "Math", "Integer", "System"));
        Matcher types = Pattern.compile("\\b[A-Z][a-z]\\w*").matcher(code);
        while (types.find()) {
            CHECK.holds("rule 4: " + types.group(), known.contains(types.group()));
        }
        Matcher calls = Pattern.compile("\\b(Math|Integer|System)\\.(\\w+)").matcher(code);
        Set<String> may = Set.of("Math.abs", "Math.max", "Math.min", "Integer.bitCount", "System.arraycopy");
        while (calls.find()) {
            CHECK.holds("rule 4: " + calls.group(), may.contains(calls.group()));
        }
    }

    /** All rows are made with the object: a 'new' stands in a field or in a constructor's loop and nowhere else. */
    private static void nothingIsMadeLater(String code) {
        for (String line : code.split("\n")) {
            if (Pattern.compile("\\bnew\\b").matcher(line).find()) {
                boolean inField = line.matches(" *(private )?final [\\w\\[\\]]+ \\w+ = new .*");
                boolean inLoop = line.matches(" *(shelves\\[s\\] = new Shelf|windows\\[w\\] = new Window|people\\[p\\] = new Person)\\(\\);");
                CHECK.holds("made: " + line.trim(), inField || inLoop);
            }
        }
    }

    private static void sizes(String source) {
        CHECK.holds("rule 11: classes", classes().size() <= 12);
        for (Class<?> one : classes()) {
            long fields = Arrays.stream(one.getDeclaredFields()).filter(f -> !Modifier.isStatic(f.getModifiers())).count();
            CHECK.holds("rule 11: fields of " + one, fields <= 20);
        }
        int start = 0;
        String[] lines = source.split("\n");
        for (int i = 0; i < lines.length; i++) {
            if (lines[i].matches(" {4,8}[a-z].*\\) \\{") && !lines[i].matches(" *(if|for|while|switch).*")) {
                start = i;
            }
            if (lines[i].matches(" {4,8}\\}")) {
                CHECK.holds("rule 11: the method at line " + (start + 1), i - start <= 60 || lines[i].matches(" {4}\\}"));
            }
            CHECK.holds("the length of line " + (i + 1), lines[i].length() <= 120);
        }
    }
}
