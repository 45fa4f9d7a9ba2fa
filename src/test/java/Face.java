import java.io.IOException;
import java.nio.file.Files;
import java.nio.file.Path;
import java.util.ArrayList;
import java.util.List;
import java.util.regex.Matcher;
import java.util.regex.Pattern;

/** The public face as the document prints it. */
final class Face {
    /** A method of it: what it answers, its name, and its arguments' types and names. */
    record Method(String answers, String name, List<String> types, List<String> names) {
        String signature() {
            return answers + " " + name + "(" + String.join(", ", types) + ")";
        }
    }

    private Face() {
    }

    static List<Method> methods(String shared) throws IOException {
        List<Method> methods = new ArrayList<>();
        Matcher m = Pattern.compile("public (int|long) (\\w+)\\((.*?)\\);").matcher(Files.readString(Path.of(shared, "DOC.md")));
        while (m.find()) {
            List<String> types = new ArrayList<>();
            List<String> names = new ArrayList<>();
            for (String argument : m.group(3).isEmpty() ? new String[0] : m.group(3).split(", ")) {
                types.add(argument.split(" ")[0]);
                names.add(argument.split(" ")[1]);
            }
            methods.add(new Method(m.group(1), m.group(2), types, names));
        }
        return methods;
    }
}
