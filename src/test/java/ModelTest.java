import java.lang.reflect.InvocationTargetException;
import java.lang.reflect.Method;
import java.util.ArrayList;
import java.util.Comparator;
import java.util.List;
import java.util.Random;

/** Runs of calls by fixed seeds, on the class and on the Model: every answer and exception is to be the same. */
public final class ModelTest {
    private static final String[] NAMES = {"reach", "fog", "blind", "age", "wet", "tilt", "pace", "tenth", "far",
        "met", "other", "mine"};

    private static final int NO_CAR = -100;
    // Behind 512 calls answers are free; a text of 600 bytes takes 32.
    private static final int MOST_CALLS = 480;

    private final Random random;
    private final int changing;
    private final DipLights one = new DipLights();
    private final Model other = new Model();
    private final List<String> log = new ArrayList<>();
    private int calls = 0;

    private ModelTest(long seed) {
        random = new Random(seed);
        changing = random.nextInt(4) == 0 ? 40 : 0;
    }

    public static void main(String[] args) throws Exception {
        int runs = args.length > 1 ? Integer.parseInt(args[1]) : 500;
        long from = args.length > 2 ? Long.parseLong(args[2]) : 1;
        List<Method> methods = new ArrayList<>();
        for (Method method : DipLights.class.getDeclaredMethods()) {
            if (java.lang.reflect.Modifier.isPublic(method.getModifiers())) {
                methods.add(method);
            }
        }
        methods.sort(Comparator.comparing(Method::getName));
        for (long seed = from; seed < from + runs; seed++) {
            if (!new ModelTest(seed).run(methods)) {
                break;
            }
        }
        Kit.end("ModelTest");
    }

    private boolean run(List<Method> methods) throws Exception {
        boolean good = true;
        while (good && calls < MOST_CALLS) {
            int kind = random.nextInt(100);
            if (kind < 1 || calls == 0 && kind < 97) {
                good = text("road", NO_CAR, roadText(), 600);
            } else if (kind < 3) {
                good = text("law", NO_CAR, formula(), 150);
            } else if (kind < 6) {
                good = text("rule", random.nextInt(10) == 0 ? random.nextInt(5) - 1 : random.nextInt(2),
                        random.nextInt(4) == 0 ? "far - " + random.nextInt(25) : formula(), 150);
            } else if (kind < 9) {
                good = text("book", NO_CAR, bookText(), 150);
            } else if (kind < 9 + changing) {
                good = same(methods.get(indexOf(methods, "drives", "stands", "weather")));
            } else {
                Method method = methods.get(random.nextInt(methods.size()));
                boolean back = changing > 0 && (method.getName().equals("undo") || method.getName().equals("restore"));
                if (random.nextInt(back ? 12 : wait(method.getName())) == 0) {
                    good = same(method);
                }
            }
        }
        return good;
    }

    /** Dear calls come seldom, and so do those that end a state others could look at. */
    private static int wait(String name) {
        switch (name) {
            case "duel": case "darkest":
                return 5;
            case "road": case "law": case "rule": case "book": case "feed":
                return 12;
            default:
                return 1;
        }
    }

    private int indexOf(List<Method> methods, String... names) {
        String name = names[random.nextInt(names.length)];
        int i = 0;
        while (!methods.get(i).getName().equals(name)) {
            i++;
        }
        return i;
    }

    private boolean same(Method method) throws Exception {
        return same(method, arguments(method));
    }

    private boolean text(String name, int car, String text, int most) throws Exception {
        Method feed = DipLights.class.getMethod("feed", int.class, int.class, int.class, int.class, int.class);
        boolean good = true;
        for (int i = 0; good && i < text.length(); i += 20) {
            good = same(feed, new Object[] {Kit.four(text, i), Kit.four(text, i + 4), Kit.four(text, i + 8),
                Kit.four(text, i + 12), Kit.four(text, i + 16)});
        }
        int n = random.nextInt(40) == 0 ? random.nextInt(most + 2) : text.length();
        if (car == NO_CAR) {
            good = good && same(DipLights.class.getMethod(name, int.class), new Object[] {n});
        } else {
            good = good && same(DipLights.class.getMethod(name, int.class, int.class), new Object[] {car, n});
        }
        return good && same(DipLights.class.getMethod("fault"), new Object[0]);
    }

    private boolean same(Method method, Object[] arguments) throws Exception {
        calls++;
        String got = answer(method, one, arguments);
        Method twin = Model.class.getMethod(method.getName(), method.getParameterTypes());
        String want = answer(twin, other, arguments);
        StringBuilder line = new StringBuilder(method.getName()).append('(');
        for (Object argument : arguments) {
            line.append(argument).append(' ');
        }
        log.add(line.append(") = ").append(want).toString());
        Kit.due(method.getName(), got.equals(want) ? 1 : 0, 1);
        if (!got.equals(want)) {
            System.out.println(String.join("\n", log) + " but got " + got);
        }
        return got.equals(want);
    }

    private static String answer(Method method, Object on, Object[] arguments) throws Exception {
        try {
            return String.valueOf(method.invoke(on, arguments));
        } catch (InvocationTargetException e) {
            return e.getCause().getClass().getName();
        }
    }

    private Object[] arguments(Method method) {
        Object[] all = new Object[method.getParameterCount()];
        for (int i = 0; i < all.length; i++) {
            all[i] = argument(method.getName(), i);
        }
        return all;
    }

    private int argument(String name, int i) {
        if (random.nextInt(60) == 0) {
            int[] odd = {-1, Integer.MIN_VALUE, Integer.MAX_VALUE, 100, 61, 41, 21, 99, 16, 17, 98};
            return odd[random.nextInt(odd.length)];
        }
        String key = name + i;
        switch (key) {
            case "feed0": case "feed1": case "feed2": case "feed3": case "feed4": case "nights0":
                return random.nextInt();
            case "road0": case "law0": case "rule1": case "book0":
                return random.nextInt(30);
            case "at1":
                return random.nextInt(random.nextBoolean() ? 25 : 62);
            case "coat0": case "sees1": case "finds0": case "stands0":
                return random.nextInt(5);
            case "would0": case "between1": case "cost1": case "cost2":
                return random.nextInt(random.nextBoolean() ? 20 : 62);
            case "would1": case "duel0": case "answer1": case "habit0": case "old0": case "bulbs0": case "nights1":
                return random.nextInt(22);
            case "would2": case "blinds0": case "between0":
                return 15 + random.nextInt(87);
            case "gets0": case "gets1":
                return random.nextInt(42);
            case "loaded0":
                return random.nextInt(18);
            case "loaded1": case "loaded2": case "sums1": case "at2":
                return random.nextInt(7);
            case "told0": case "darkest0": case "dark1": case "drives2": case "stands2": case "weather0": case "weather1":
                return random.nextInt(11);
            case "needs0": case "stands1":
                return random.nextInt(random.nextBoolean() ? 15 : 61);
            case "drives1": case "status0": case "count0": case "car1": case "duel1": case "habit1": case "nights2":
                return random.nextInt(5) - random.nextInt(2);
            default:
                return random.nextInt(30) == 0 ? 2 : random.nextInt(2);
        }
    }

    // ---- texts, most of them right

    private String blanks() {
        return random.nextInt(12) == 0 ? " ".repeat(1 + random.nextInt(2)) : "";
    }

    private String number(int low, int high) {
        int n = low + random.nextInt(high - low + 1);
        if (random.nextInt(150) == 0) {
            n = random.nextBoolean() ? high + 1 : Math.max(0, low - 1);
        }
        String zeros = random.nextInt(60) == 0 ? "0".repeat(random.nextInt(14)) : "";
        String huge = random.nextInt(600) == 0 ? "4294967296" : "";
        return " " + zeros + huge + n;
    }

    private String roadText() {
        StringBuilder text = new StringBuilder();
        int n = 40;
        if (random.nextInt(3) != 0) {
            n = random.nextBoolean() ? 10 + random.nextInt(20) : 10 + random.nextInt(51);
            text.append(blanks()).append("length ").append(n).append(blanks()).append(";");
        }
        int clauses = random.nextInt(random.nextInt(12) == 0 ? 64 : 16);
        for (int i = 0; i < clauses && text.length() < 560; i++) {
            text.append(blanks()).append(clause(n)).append(blanks()).append(";");
        }
        for (int i = random.nextInt(6) == 0 ? 1 : 0; i < 2; i++) {
            text.append("car").append(number(17, 99)).append(number(1, 3)).append(number(0, 9)).append(";");
        }
        return broken(text.toString());
    }

    private String clause(int n) {
        switch (random.nextInt(20)) {
            case 0: case 1: case 2:
                return random.nextInt(2) == 0 ? "bend" + number(0, n - 1) : "fog" + number(0, 9);
            case 3: case 4: {
                int a = random.nextInt(n);
                return random.nextInt(3) == 0 ? "wet " + a + number(a, n - 1) : "wet " + a + " " + a;
            }
            case 5: case 6: case 7: case 8: case 9: case 10: case 11: case 12: case 13:
                return "coat" + number(0, n - 1) + number(0, 9);
            case 14:
                return "fog" + number(0, 9);
            case 15:
                return "blind" + number(0, 9);
            case 16:
                return "reach" + number(1, 40) + number(1, 20);
            case 17:
                return random.nextInt(15) == 0 ? "length" + number(10, 60) : "blind" + number(0, 5);
            case 18:
                return random.nextInt(15) == 0 ? "car 20 1 1" : "fog" + number(0, 9);
            default:
                return "reach" + number(10, 40) + number(3, 20);
        }
    }

    /** Now and then a byte is gone, another, or one more. */
    private String broken(String text) {
        if (random.nextInt(8) != 0 || text.isEmpty()) {
            return text;
        }
        int i = random.nextInt(text.length());
        String signs = " ;;+-*/()[],09azA\u00ff\u0000\ttl";
        char sign = signs.charAt(random.nextInt(signs.length()));
        switch (random.nextInt(4)) {
            case 0:
                return text.substring(0, i) + text.substring(i + 1);
            case 1:
                return text.substring(0, i) + sign + text.substring(i + 1);
            case 2:
                return text.substring(0, i);
            default:
                return text.substring(0, i) + sign + text.substring(i);
        }
    }

    private String formula() {
        String text;
        int tries = 0;
        do {
            text = random.nextInt(30) == 0 ? nested() : sum(random.nextInt(5));
            tries++;
        } while (text.length() > 145 && tries < 50);
        text = broken(text);
        return text.length() > 150 ? text.substring(0, 150) : text;
    }

    private String nested() {
        StringBuilder text = new StringBuilder();
        int open = 5 + random.nextInt(3);
        StringBuilder end = new StringBuilder();
        for (int i = 0; i < open; i++) {
            if (random.nextInt(3) == 0) {
                text.append("least[far,");
                end.insert(0, "]");
            } else {
                text.append(random.nextBoolean() ? "2-3*(" : "(");
                end.insert(0, ")");
            }
        }
        return text.append("reach").append(end).toString();
    }

    private String sum(int depth) {
        StringBuilder text = new StringBuilder(product(depth));
        for (int i = random.nextInt(3); i > 0; i--) {
            text.append(blanks()).append(random.nextBoolean() ? "+" : "-").append(blanks()).append(product(depth));
        }
        return text.toString();
    }

    private String product(int depth) {
        StringBuilder text = new StringBuilder(unit(depth));
        for (int i = random.nextInt(5) / 3; i > 0; i--) {
            text.append(random.nextBoolean() ? "*" : " / ").append(unit(depth));
        }
        return text.toString();
    }

    private String unit(int depth) {
        int kind = random.nextInt(10);
        if (depth > 0 && kind == 0) {
            return "(" + sum(depth - 1) + blanks() + ")";
        }
        if (depth > 0 && kind <= 2) {
            return (kind == 1 ? "least" : "most") + blanks() + "[" + sum(depth - 1) + "," + sum(depth - 1) + "]";
        }
        if (kind <= 4) {
            return random.nextInt(8) == 0 ? number(0, 999).trim() : Integer.toString(random.nextInt(22));
        }
        return kind == 5 ? "reach" : kind == 6 ? "far" : NAMES[random.nextInt(NAMES.length)];
    }

    private String bookText() {
        StringBuilder text = new StringBuilder();
        int lines = random.nextInt(random.nextInt(5) == 0 ? 15 : 5);
        int t = random.nextInt(8);
        for (int i = 0; i < lines; i++) {
            text.append(blanks()).append(t).append(number(0, 1)).append(blanks()).append(";");
            t += random.nextInt(12) == 0 ? -random.nextInt(3) : 1 + random.nextInt(3);
            t = Math.max(0, t);
        }
        return broken(text.toString());
    }
}
