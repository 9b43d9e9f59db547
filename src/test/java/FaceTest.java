import java.lang.reflect.Constructor;
import java.lang.reflect.Field;
import java.lang.reflect.Method;
import java.lang.reflect.Modifier;
import java.nio.charset.StandardCharsets;
import java.nio.file.Files;
import java.nio.file.Path;
import java.util.ArrayList;
import java.util.List;
import java.util.Set;
import java.util.TreeSet;
import java.util.regex.Matcher;
import java.util.regex.Pattern;

/** The class's face against the document's, and what of LANGUAGE.md can be seen by a look. */
public final class FaceTest {
    public static void main(String[] args) throws Exception {
        Path root = Path.of(args.length > 0 ? args[0] : ".");
        face(root);
        language(root);
        Kit.end("FaceTest");
    }

    private static void face(Path root) throws Exception {
        String document = Files.readString(root.resolve("../shared/DOC.md"), StandardCharsets.UTF_8);
        Set<String> want = new TreeSet<>();
        Matcher m = Pattern.compile("    public (int|long|boolean) (\\w+)\\(([^)]*)\\)([^;]*);").matcher(document);
        while (m.find()) {
            StringBuilder types = new StringBuilder();
            for (String part : m.group(3).isEmpty() ? new String[0] : m.group(3).split(", ")) {
                types.append(part.split(" ")[0]).append(' ');
            }
            want.add(m.group(1) + " " + m.group(2) + " " + types);
        }
        Kit.due("methods of the document", want.size(), 47);
        Set<String> got = new TreeSet<>();
        for (Method method : DipLights.class.getDeclaredMethods()) {
            if (Modifier.isPrivate(method.getModifiers()) || method.isSynthetic()) {
                continue;
            }
            StringBuilder types = new StringBuilder();
            for (Class<?> type : method.getParameterTypes()) {
                types.append(type.getName()).append(' ');
            }
            got.add(method.getReturnType().getName() + " " + method.getName() + " " + types);
            Kit.due(method.getName() + " is public", Modifier.isPublic(method.getModifiers()) ? 1 : 0, 1);
        }
        Kit.due("the face " + got, got.equals(want) ? 1 : 0, 1);
        Kit.due("final", Modifier.isFinal(DipLights.class.getModifiers()) ? 1 : 0, 1);
        for (Constructor<?> made : DipLights.class.getDeclaredConstructors()) {
            Kit.due("one constructor without numbers", made.getParameterCount(), 0);
        }
        for (Field field : DipLights.class.getDeclaredFields()) {
            boolean none = field.getName().equals("NONE");
            Kit.due(field.getName(), Modifier.isPrivate(field.getModifiers()) ? 0 : 1, none ? 1 : 0);
        }
        innerNames(got);
        Kit.due("NONE", DipLights.NONE, -1);
    }

    /** No method of the classes inside bears a name of the face, and none is large. */
    private static void innerNames(Set<String> face) {
        Set<String> names = new TreeSet<>();
        for (String line : face) {
            names.add(line.split(" ")[1]);
        }
        List<Class<?>> all = new ArrayList<>(List.of(DipLights.class.getDeclaredClasses()));
        Kit.due("at most twelve classes", all.size() <= 11 ? 1 : 0, 1);
        for (Class<?> inner : all) {
            Kit.due(inner + " is static", Modifier.isStatic(inner.getModifiers()) ? 1 : 0, 1);
            int fields = 0;
            for (Field field : inner.getDeclaredFields()) {
                fields += Modifier.isStatic(field.getModifiers()) ? 0 : 1;
            }
            Kit.due(inner + " has few fields", fields <= 20 ? 1 : 0, 1);
            for (Method method : inner.getDeclaredMethods()) {
                Kit.due(inner + "." + method.getName() + " is no name of the face",
                        names.contains(method.getName()) ? 1 : 0, 0);
                Kit.due(method + " takes at most seven", method.getParameterCount() <= 7 ? 1 : 0, 1);
            }
        }
        Set<String> seen = new TreeSet<>();
        for (Method method : DipLights.class.getDeclaredMethods()) {
            Kit.due("one method named " + method.getName(), seen.add(method.getName()) ? 1 : 0, 1);
        }
    }

    private static void language(Path root) throws Exception {
        String source = Files.readString(root.resolve("src/main/java/DipLights.java"), StandardCharsets.US_ASCII);
        String[] banned = {"->", "::", "Exact(", "package ", "try ", "catch", "finally", "synchronized", "assert ",
            "Integer.MAX", "Integer.MIN", "System.out", "System.nano", "System.current", "Random", "Thread",
            "double", "float", "instanceof", "static {", "toString", "hashCode", ".equals(", "while (true)",
            "for (;;)", "var "};
        for (String word : banned) {
            Kit.due("'" + word + "' in the class", source.contains(word) ? 1 : 0, 0);
        }
        Matcher imports = Pattern.compile("import ([\\w.]+);").matcher(source);
        while (imports.find()) {
            Kit.due("import " + imports.group(1), imports.group(1).equals("java.util.NoSuchElementException") ? 1 : 0, 1);
        }
        shortMethods(source);
    }

    private static void shortMethods(String source) {
        String[] lines = source.split("\n");
        int begin = -1;
        String indent = "";
        for (int i = 0; i < lines.length; i++) {
            Matcher m = Pattern.compile("^( {4}| {8})(private|public) [^=;]*\\{$").matcher(lines[i]);
            if (m.find() && !lines[i].contains(" class ")) {
                begin = i;
                indent = m.group(1);
            } else if (begin >= 0 && lines[i].equals(indent + "}")) {
                Kit.due("the method in line " + (begin + 1) + " is short", i - begin < 60 ? 1 : 0, 1);
                begin = -1;
            }
        }
    }
}
