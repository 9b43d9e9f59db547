import java.lang.reflect.InvocationTargetException;
import java.lang.reflect.Method;
import java.util.ArrayList;
import java.util.HashMap;
import java.util.List;
import java.util.Map;

/** Calls by name on the class or on the Model, and all that one of them can be asked. */
final class Say {
    static final String ELEMENT = "NoSuchElementException";
    static final String ARGUMENT = "IllegalArgumentException";
    static final String STATE = "IllegalStateException";

    private static final Map<Class<?>, Map<String, Method>> METHODS = new HashMap<>();

    private Say() {
    }

    /** The answer, or the exception's name. */
    static String call(Object on, String name, int... numbers) {
        Object[] arguments = new Object[numbers.length];
        for (int i = 0; i < numbers.length; i++) {
            arguments[i] = numbers[i];
        }
        try {
            return String.valueOf(methodsOf(on.getClass()).get(name).invoke(on, arguments));
        } catch (InvocationTargetException e) {
            return e.getCause().getClass().getSimpleName();
        } catch (IllegalAccessException e) {
            throw new IllegalStateException(e);
        }
    }

    private static Map<String, Method> methodsOf(Class<?> owner) {
        return METHODS.computeIfAbsent(owner, c -> {
            Map<String, Method> byName = new HashMap<>();
            for (Method method : c.getMethods()) {
                if (method.getDeclaringClass() == c) {
                    byName.put(method.getName(), method);
                }
            }
            return byName;
        });
    }

    static void feed(Object on, String text) {
        for (int i = 0; i < text.length(); i += 20) {
            call(on, "feed", Kit.four(text, i), Kit.four(text, i + 4), Kit.four(text, i + 8), Kit.four(text, i + 12),
                    Kit.four(text, i + 16));
        }
    }

    /** Feeds a text and has it taken: road, law, book, or rule with a CAR ahead of it. */
    static String text(Object on, String name, String text, int... car) {
        feed(on, text);
        return car.length == 0 ? call(on, name, text.length()) : call(on, name, car[0], text.length());
    }

    /** How many calls were refused, by reason. */
    static String refusals(Object on) {
        return call(on, "status", 0) + " " + call(on, "status", 1) + " " + call(on, "status", 2);
    }

    /**
     * All that can be asked but for refusals, then all that can be taken back: two objects that answer
     * alike here hold the same. What is on the TAPE is read as a LAW, if that is asked for, too.
     */
    static List<String> all(Object on, boolean withTape) {
        List<String> said = new ArrayList<>();
        if (withTape) {
            ask(said, on, "fault");
            ask(said, on, "count", 1);
        }
        whatIsTold(said, on);
        whatComesOut(said, on);
        if (withTape) {
            ask(said, on, "law", 8);
            ask(said, on, "fault");
            ask(said, on, "at", 0, 0, 3);
        }
        takeBack(said, on, "undo", 3);
        takeBack(said, on, "restore", 2);
        takeBack(said, on, "undo", 2);
        return said;
    }

    private static void ask(List<String> said, Object on, String name, int... numbers) {
        StringBuilder line = new StringBuilder(name);
        for (int number : numbers) {
            line.append(' ').append(number);
        }
        said.add(line.append(" = ").append(call(on, name, numbers)).toString());
    }

    private static void each(List<String> said, Object on, String name, int whats, int... ahead) {
        int[] numbers = java.util.Arrays.copyOf(ahead, ahead.length + 1);
        for (int what = 0; what < whats; what++) {
            numbers[ahead.length] = what;
            ask(said, on, name, numbers);
        }
    }

    private static void whatIsTold(List<String> said, Object on) {
        ask(said, on, "count", 0);
        ask(said, on, "count", 2);
        each(said, on, "told", 10);
        for (int i = 0; i < 2; i++) {
            each(said, on, "car", 4, i);
            each(said, on, "coat", 2, i);
        }
    }

    private static void whatComesOut(List<String> said, Object on) {
        ask(said, on, "tenths");
        ask(said, on, "passes");
        for (int car = 0; car < 2; car++) {
            ask(said, on, "hits", car);
            each(said, on, "sees", 2, car);
            each(said, on, "sums", 6, car);
            for (int tenth = 0; tenth < 10; tenth += 3) {
                each(said, on, "at", 6, car, tenth);
            }
            each(said, on, "safe", 2, car);
            each(said, on, "dips", 2, car);
            each(said, on, "gap", 2, car);
            ask(said, on, "dark", car, 1);
            ask(said, on, "clear", car);
            ask(said, on, "cost", car, 12, 3);
            ask(said, on, "answer", car, 4);
            each(said, on, "finds", 2, car);
        }
        each(said, on, "duel", 4, 2);
        each(said, on, "habit", 4, 19);
        each(said, on, "nights", 4, 7, 2);
        each(said, on, "look", 2);
        each(said, on, "paces", 2);
        ask(said, on, "distances");
        ask(said, on, "right");
        ask(said, on, "would", 20, 2, 50, 1);
        ask(said, on, "blinds", 45);
        ask(said, on, "darkest", 3);
        ask(said, on, "needs", 5);
    }

    private static void takeBack(List<String> said, Object on, String name, int times) {
        for (int i = 0; i < times; i++) {
            ask(said, on, name);
            ask(said, on, "count", 0);
            ask(said, on, "count", 2);
            ask(said, on, "told", 5);
            ask(said, on, "told", 6);
            each(said, on, "coat", 2, 0);
            each(said, on, "coat", 2, 1);
            each(said, on, "car", 3, 0);
            each(said, on, "car", 3, 1);
            ask(said, on, "sums", 0, 0);
        }
    }

    /** What of the one's answers differs from the other one's. */
    static String difference(List<String> got, List<String> want) {
        StringBuilder text = new StringBuilder();
        for (int i = 0; i < Math.max(got.size(), want.size()); i++) {
            String one = i < got.size() ? got.get(i) : "nothing";
            String other = i < want.size() ? want.get(i) : "nothing";
            if (!one.equals(other)) {
                text.append(one).append(" (due: ").append(other).append(") ");
            }
        }
        return text.toString();
    }
}
