import java.lang.reflect.Constructor;
import java.lang.reflect.Field;
import java.lang.reflect.Method;
import java.lang.reflect.Modifier;
import java.nio.charset.StandardCharsets;
import java.nio.file.Files;
import java.nio.file.Path;
import java.util.Set;
import java.util.TreeSet;
import java.util.regex.Matcher;
import java.util.regex.Pattern;

/** The class's face against the document's, and what of LANGUAGE.md can be seen by a look. */
public final class FaceTest {
    public static void main(String[] args) throws Exception {
        Path root = Path.of(args.length > 0 ? args[0] : ".");
        face(root);
        language(root);
        Kit.end("FaceTest");
    }

    private static void face(Path root) throws Exception {
        String document = Files.readString(root.resolve("../shared/DOC.md"), StandardCharsets.UTF_8);
        Set<String> want = new TreeSet<>();
        Matcher m = Pattern.compile("    public (int|long|boolean) (\\w+)\\(([^)]*)\\)([^;]*);").matcher(document);
        while (m.find()) {
            StringBuilder types = new StringBuilder();
            for (String part : m.group(3).isEmpty() ? new String[0] : m.group(3).split(", ")) {
                types.append(part.split(" ")[0]).append(' ');
            }
            want.add(m.group(1) + " " + m.group(2) + " " + types);
        }
        Kit.due("methods of the document", want.size(), 47);
        Set<String> got = new TreeSet<>();
        for (Method method : DipLights.class.getDeclaredMethods()) {
            if (Modifier.isPrivate(method.getModifiers()) || method.isSynthetic()) {
                continue;
            }
            StringBuilder types = new StringBuilder();
            for (Class<?> type : method.getParameterTypes()) {
                types.append(type.getName()).append(' ');
            }
            got.add(method.getReturnType().getName() + " " + method.getName() + " " + types);
            Kit.due(method.getName() + " is public", Modifier.isPublic(method.getModifiers()) ? 1 : 0, 1);
        }
        Kit.due("the face", got.toString(), want.toString());
        Kit.due("final", Modifier.isFinal(DipLights.class.getModifiers()) ? 1 : 0, 1);
        Kit.due("public", Modifier.isPublic(DipLights.class.getModifiers()) ? 1 : 0, 1);
        for (Constructor<?> made : DipLights.class.getDeclaredConstructors()) {
            Kit.due("one constructor without numbers", made.getParameterCount(), 0);
        }
        for (Field field : DipLights.class.getDeclaredFields()) {
            boolean none = field.getName().equals("NONE");
            if (!field.isSynthetic()) {
                Kit.due(field.getName(), Modifier.isPrivate(field.getModifiers()) ? 0 : 1, none ? 1 : 0);
            }
        }
        Kit.due("NONE", DipLights.NONE, -1);
        Set<String> names = new TreeSet<>();
        for (String line : got) {
            names.add(line.split(" ")[1]);
        }
        sizesAndNames(DipLights.class, names);
        for (Class<?> inner : DipLights.class.getDeclaredClasses()) {
            sizesAndNames(inner, names);
        }
        Kit.due("some twelve classes", DipLights.class.getDeclaredClasses().length < 14 ? 1 : 0, 1);
    }

    /** No private method bears a name of the face, none takes more than seven, some twenty fields. */
    private static void sizesAndNames(Class<?> owner, Set<String> face) {
        int fields = 0;
        for (Field field : owner.getDeclaredFields()) {
            fields += Modifier.isStatic(field.getModifiers()) ? 0 : 1;
        }
        Kit.due(owner + " has few fields", fields < 25 ? 1 : 0, 1);
        for (Method method : owner.getDeclaredMethods()) {
            if (Modifier.isPrivate(method.getModifiers())) {
                Kit.due(owner + "." + method.getName() + " is no name of the face",
                        face.contains(method.getName()) ? 1 : 0, 0);
            }
            Kit.due(method + " takes at most seven", method.getParameterCount() <= 7 ? 1 : 0, 1);
        }
    }

    /** The words alone: without comments and written texts. */
    private static String bare(String source) {
        return source.replaceAll("(?s)/\\*.*?\\*/", "").replaceAll("\"(\\\\.|[^\"\\\\])*\"", "\"\"").replaceAll("//[^\n]*", "");
    }

    private static void language(Path root) throws Exception {
        String source = bare(Files.readString(root.resolve("src/main/java/DipLights.java"), StandardCharsets.UTF_8));
        String[] banned = {"::", "Exact\\(", "\\bpackage ", "\\bfinally\\b", "\\bsynchronized\\b", "\\bassert\\b",
            "System\\.(?!arraycopy)", "\\bRandom\\b", "\\bThread\\b", "\\bstatic \\{", "\\bhashCode\\b", "\\bgetMessage\\b",
            "while \\(true\\)", "for \\(;;\\)", "\\)\\s*->",
            "\\b(ArrayIndexOutOfBounds|NullPointer|ClassCast|NegativeArraySize|ArrayStore)Exception\\b"};
        for (String word : banned) {
            Kit.due("'" + word + "' in the class", Pattern.compile(word).matcher(source).find() ? 1 : 0, 0);
        }
        Matcher imports = Pattern.compile("import ([\\w.]+);").matcher(source);
        while (imports.find()) {
            Kit.due("import " + imports.group(1), imports.group(1).startsWith("java.util.") ? 1 : 0, 1);
        }
        shortMethods(source);
    }

    private static void shortMethods(String source) {
        String[] lines = source.split("\n");
        int begin = -1;
        String indent = "";
        for (int i = 0; i < lines.length; i++) {
            Matcher m = Pattern.compile("^( {4}| {8})(private|public) [^=;]*\\{$").matcher(lines[i]);
            if (m.find() && !lines[i].contains(" class ")) {
                begin = i;
                indent = m.group(1);
            } else if (begin >= 0 && lines[i].equals(indent + "}")) {
                Kit.due("the method in line " + (begin + 1) + " is short", i - begin < 70 ? 1 : 0, 1);
                begin = -1;
            }
        }
    }
}
