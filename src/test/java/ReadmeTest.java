import java.io.ByteArrayOutputStream;
import java.io.PrintStream;
import java.lang.reflect.Method;
import java.lang.reflect.Modifier;
import java.net.URL;
import java.net.URLClassLoader;
import java.nio.charset.StandardCharsets;
import java.nio.file.Files;
import java.nio.file.Path;
import java.util.Set;
import java.util.TreeSet;
import java.util.regex.Matcher;
import java.util.regex.Pattern;
import javax.tools.JavaCompiler;
import javax.tools.ToolProvider;

/** What README.md shows: its program prints what stands there, its texts are taken, its calls exist. */
public final class ReadmeTest {
    public static void main(String[] args) throws Exception {
        Path root = Path.of(args.length > 0 ? args[0] : ".");
        String page = Files.readString(root.resolve("README.md"), StandardCharsets.UTF_8);
        program(page);
        texts(page);
        usual(page);
        faults(page);
        refusals(page);
        calls(page);
        tests(root, page);
        Kit.end("ReadmeTest");
    }

    private static String block(String page, String kind, int from) {
        String open = "```" + kind + "\n";
        int begin = page.indexOf(open, from);
        if (begin < 0) {
            return "";
        }
        begin += open.length();
        return page.substring(begin, page.indexOf("```", begin));
    }

    private static void program(String page) throws Exception {
        JavaCompiler compiler = ToolProvider.getSystemJavaCompiler();
        Kit.due("a compiler is there", compiler == null ? 0 : 1, 1);
        if (compiler == null) {
            return;
        }
        Path room = Files.createTempDirectory("readme");
        Path source = room.resolve("Night.java");
        Files.writeString(source, block(page, "java", 0));
        int compiled = compiler.run(null, null, null, "-d", room.toString(),
                "-cp", System.getProperty("java.class.path"), source.toString());
        Kit.due("the program compiles", compiled, 0);
        if (compiled == 0) {
            Kit.due("what the program prints", printed(room), block(page, "text", page.indexOf("It prints")));
        }
        for (String name : new String[] {"Night.java", "Night.class"}) {
            Files.deleteIfExists(room.resolve(name));
        }
        Files.deleteIfExists(room);
    }

    private static String printed(Path room) throws Exception {
        ByteArrayOutputStream bytes = new ByteArrayOutputStream();
        PrintStream before = System.out;
        try (URLClassLoader loader = new URLClassLoader(new URL[] {room.toUri().toURL()})) {
            System.setOut(new PrintStream(bytes, true, StandardCharsets.UTF_8));
            loader.loadClass("Night").getMethod("main", String[].class).invoke(null, (Object) new String[0]);
        } finally {
            System.setOut(before);
        }
        return bytes.toString(StandardCharsets.UTF_8).replace("\r\n", "\n");
    }

    /** The text that the table shows behind a call. */
    private static String shown(String page, String call) {
        Matcher m = Pattern.compile("\\| `" + Pattern.quote(call) + "` \\|[^`|]*`([^`]*)` \\|").matcher(page);
        return m.find() ? m.group(1) : "nothing shown";
    }

    private static void texts(String page) {
        DipLights x = new DipLights();
        Kit.due("the road shown", Kit.road(x, shown(page, "road(n)")), 1);
        Kit.due("the law shown", Kit.law(x, shown(page, "law(n)")), 1);
        Kit.due("the rule shown", Kit.rule(x, 0, shown(page, "rule(car, n)")), 1);
        Kit.due("the book shown", Kit.book(x, shown(page, "book(n)")), 2);
    }

    /** The law, the rules and the numbers that the page calls those without any told. */
    private static void usual(String page) {
        String cars = "wet 2 5;coat 9 3;fog 2;car 40 1 5;car 60 2 0;";
        DipLights told = Kit.onRoad(cars);
        Kit.law(told, shown(page, "law(n)"));
        Kit.rule(told, 0, shown(page, "rule(car, n)"));
        Kit.rule(told, 1, shown(page, "rule(car, n)"));
        Kit.due("law and rules shown", Say.difference(Say.all(told, false), Say.all(Kit.onRoad(cars), false)), "");
        Matcher m = Pattern.compile("(length \\d+), no bends, nothing wet, no coats, (fog \\d+), (blind \\d+),"
                + " (reach \\d+ \\d+), no cars").matcher(page);
        DipLights numbers = new DipLights();
        String road = m.find() ? m.group(1) + ";" + m.group(2) + ";" + m.group(3) + ";" + m.group(4) + ";" : "nothing";
        Kit.due("a road by the numbers shown", Kit.road(numbers, road), 0);
        Kit.due("numbers shown", Say.difference(Say.all(numbers, false), Say.all(new DipLights(), false)), "");
    }

    private static void faults(String page) {
        DipLights x = new DipLights();
        fault(page, "what can't stand there", Kit.road(x, "cars"));
        fault(page, "a number that is none such", Kit.road(x, "fog 10;"));
        fault(page, "a tenth that is in the book already", Kit.book(x, "1 1;1 1;"));
        fault(page, "car or line too many", Kit.road(x, "car 20 1 1;car 20 1 1;car 20 1 1;"));
        fault(page, "a 7th `(`", Kit.law(x, "(((((((1)))))))"));
        fault(page, "length too late, or again", Kit.road(x, "fog 1;length 20;"));
        Kit.due("none of these is refused", Say.refusals(x), "0 0 0");
    }

    private static void fault(String page, String words, int answer) {
        Matcher m = Pattern.compile("\\| (-\\d) \\| (\\d): [^|\n]*" + Pattern.quote(words)).matcher(page);
        boolean found = m.find();
        Kit.due("a row for: " + words, found ? 1 : 0, 1);
        if (found) {
            Kit.due(words, answer, Integer.parseInt(m.group(1)));
            Kit.due(words + ", the fault", answer + 10, Integer.parseInt(m.group(2)));
        }
    }

    private static void refusals(String page) {
        Object x = Kit.onRoad("car 20 1 1;");
        String[] calls = {Say.call(x, "car", 1, 9), Say.call(x, "cost", 0, 61, 0), Say.call(x, "cost", 0, 0, 0)};
        for (int reason = 0; reason < calls.length; reason++) {
            Matcher m = Pattern.compile("\\| `(\\w+)` \\|[^\n]*\\| `status\\(" + reason + "\\)` \\|").matcher(page);
            Kit.due("reason " + reason, calls[reason], m.find() ? m.group(1) : "nothing shown");
        }
        Kit.due("counted by reason", Say.refusals(x), "1 1 1");
    }

    private static void calls(String page) {
        Set<String> face = new TreeSet<>();
        for (Method method : DipLights.class.getDeclaredMethods()) {
            if (Modifier.isPublic(method.getModifiers())) {
                face.add(method.getName());
            }
        }
        int from = page.indexOf("## Texts");
        int to = page.indexOf("## Tests");
        Set<String> named = new TreeSet<>();
        Matcher m = Pattern.compile("`([a-z]+)(\\([^`]*\\))?`").matcher(page.substring(from, to));
        while (m.find()) {
            named.add(m.group(1));
        }
        for (String word : new String[] {"what", "least", "most"}) {
            named.remove(word);
        }
        Kit.due("calls on the page", named.toString(), face.toString());
    }

    private static void tests(Path root, String page) throws Exception {
        Set<String> there = new TreeSet<>();
        try (var files = Files.list(root.resolve("src/test/java"))) {
            files.map(file -> file.getFileName().toString()).filter(name -> name.endsWith("Test.java"))
                    .forEach(name -> there.add(name.replace(".java", "")));
        }
        Set<String> named = new TreeSet<>();
        Matcher m = Pattern.compile("`(\\w+Test)`").matcher(page.substring(page.indexOf("## Tests")));
        while (m.find()) {
            named.add(m.group(1));
        }
        Kit.due("tests on the page", named.toString(), there.toString());
    }
}
