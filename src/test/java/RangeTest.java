import java.util.List;

/**
 * Every range of every number of every call: the last number that is allowed and the first that is not,
 * on both sides; what a refused call throws, that it leaves all else as it was, and that it is counted by
 * its reason alone. Where a number is allowed the Model says what is due.
 */
public final class RangeTest {
    private static final String TWO_CARS = "car 40 1 0;car 20 2 5;";
    private static final String TWO_COATS = "coat 8 0;coat 15 2;";

    /** What the object asked is told; all rows of one group are asked of such objects. */
    private static String cars = TWO_CARS;
    private static String coats = TWO_COATS;

    public static void main(String[] args) {
        whats();
        carsAndCoats();
        fewerCars();
        fewerCoats();
        tenths();
        would();
        games();
        odds();
        nightsAndCells();
        changes();
        takenTexts();
        notTwoCars();
        elementAheadOfArgument();
        argumentAheadOfState();
        neverRefused();
        Kit.end("RangeTest");
    }

    private static void scene(Object on) {
        Say.text(on, "road", "length 20;bend 3;wet 4 6;fog 1;blind 2;reach 12 4;" + coats + cars);
        Say.text(on, "law", "(reach - fog) / (blind + 1) + mine");
        Say.text(on, "rule", "far - 7", 0);
        Say.text(on, "rule", "far - 9 + other", 1);
        Say.text(on, "book", "2 1;3 0;");
        Say.call(on, "weather", 2, 3);
        Say.call(on, "image");
        Say.call(on, "weather", 3, 1);
        Say.call(on, "image");
        Say.call(on, "weather", 0, 4);
        Say.text(on, "rule", "1 +", 0);
        Say.feed(on, "mine + 7");
    }

    private static DipLights made() {
        DipLights x = new DipLights();
        scene(x);
        return x;
    }

    private static Model modelled() {
        Model x = new Model();
        scene(x);
        return x;
    }

    private static void answered(String what, String name, int... numbers) {
        DipLights x = made();
        Model m = modelled();
        String want = Say.call(m, name, numbers);
        Kit.due(what + " is allowed", want.endsWith("Exception") ? 1 : 0, 0);
        Kit.due(what, Say.call(x, name, numbers), want);
        Kit.due(what + ": nothing is refused", Say.refusals(x), "0 0 0");
        Kit.due(what + ": what holds then", Say.difference(Say.all(x, true), Say.all(m, true)), "");
    }

    private static void refused(String what, String reason, String name, int... numbers) {
        DipLights x = made();
        Kit.due(what, Say.call(x, name, numbers), reason);
        Kit.due(what + ": counted by its reason", Say.refusals(x), counted(reason, 1));
        Kit.due(what + ": refused again", Say.call(x, name, numbers), reason);
        Kit.due(what + ": counted again", Say.refusals(x), counted(reason, 2));
        Kit.due(what + ": all else stays", Say.difference(Say.all(x, true), Say.all(made(), true)), "");
    }

    private static String counted(String reason, int times) {
        int element = reason.equals(Say.ELEMENT) ? times : 0;
        int argument = reason.equals(Say.ARGUMENT) ? times : 0;
        int state = reason.equals(Say.STATE) ? times : 0;
        return element + " " + argument + " " + state;
    }

    private static int[] with(int[] numbers, int index, int number) {
        int[] all = numbers.clone();
        all[index] = number;
        return all;
    }

    private static void bounds(String what, String reason, String name, int[] range, int index, int... good) {
        answered(what + " " + range[0], name, with(good, index, range[0]));
        answered(what + " " + range[1], name, with(good, index, range[1]));
        for (int wrong : new int[] {range[0] - 1, range[1] + 1, Integer.MIN_VALUE, Integer.MAX_VALUE}) {
            refused(what + " " + wrong, reason, name, with(good, index, wrong));
        }
    }

    /** A number of a call that IllegalArgumentException keeps within low and high. */
    private static void range(String what, String name, int low, int high, int index, int... good) {
        bounds(what, Say.ARGUMENT, name, new int[] {low, high}, index, good);
    }

    /** A CAR or COAT of a call, of which there are so many. */
    private static void elements(String what, String name, int many, int index, int... good) {
        bounds(what, Say.ELEMENT, name, new int[] {0, many - 1}, index, good);
    }

    private static void whats() {
        range("8 told: another what", "told", 0, 9, 0, 0);
        range("9 car: another what", "car", 0, 3, 1, 0, 0);
        range("10 coat: another what", "coat", 0, 1, 1, 0, 0);
        range("12 at: another what", "at", 0, 5, 2, 0, 0, 0);
        range("16 sums: another what", "sums", 0, 5, 1, 0, 0);
        range("19 duel: another what", "duel", 0, 3, 1, 2, 0);
        range("21 habit: another what", "habit", 0, 3, 1, 2, 0);
        range("22 safe: full (1) or dipped (0)", "safe", 0, 1, 1, 0, 0);
        range("23 loaded: part 0, part 1", "loaded", 0, 1, 3, 8, 3, 2, 0);
        range("28 bulbs: another what", "bulbs", 0, 2, 1, 3, 0);
        range("30 look: another what", "look", 0, 1, 0, 0);
        range("32 nights: another what", "nights", 0, 3, 2, 5, 2, 0);
        range("35 dips: another what", "dips", 0, 1, 1, 0, 0);
        range("36 gap: another what", "gap", 0, 1, 1, 0, 0);
        range("39 paces: another what", "paces", 0, 1, 0, 0);
        range("40 finds: another what", "finds", 0, 1, 1, 0, 0);
    }

    private static void carsAndCoats() {
        elements("9 car", "car", 2, 0, 0, 1);
        elements("10 coat", "coat", 2, 0, 0, 0);
        elements("12 at: CAR", "at", 2, 0, 0, 3, 0);
        elements("14 hits", "hits", 2, 0, 0);
        elements("15 sees: CAR", "sees", 2, 0, 0, 0);
        elements("15 sees: COAT", "sees", 2, 1, 0, 0);
        elements("16 sums: CAR", "sums", 2, 0, 0, 0);
        elements("18 cost: CAR", "cost", 2, 0, 0, 9, 9);
        elements("20 answer: CAR", "answer", 2, 0, 0, 3);
        elements("22 safe: CAR", "safe", 2, 0, 0, 1);
        elements("34 dark: CAR", "dark", 2, 0, 0, 1);
        elements("35 dips: CAR", "dips", 2, 0, 0, 0);
        elements("36 gap: CAR", "gap", 2, 0, 0, 0);
        elements("38 clear", "clear", 2, 0, 0);
        elements("40 finds: COAT", "finds", 2, 0, 0, 0);
        elements("41 drives: CAR", "drives", 2, 0, 0, 3, 9);
        elements("42 stands: COAT", "stands", 2, 0, 0, 5, 9);
    }

    /** With one CAR there is no CAR 1, without CLAUSES no CAR 0. */
    private static void fewerCars() {
        String[] names = {"car", "hits", "sums", "safe", "dark", "dips", "gap", "clear"};
        for (int many = 0; many < 2; many++) {
            cars = many == 0 ? "" : "car 40 1 0;";
            for (String name : names) {
                boolean alone = name.equals("hits") || name.equals("clear");
                int[] first = alone ? new int[] {many} : new int[] {many, 1};
                refused("9 no CAR " + many + ": " + name, Say.ELEMENT, name, first);
                if (many == 1) {
                    answered("9 CAR 0 alone: " + name, name, with(first, 0, 0));
                }
            }
            refused("9 no CAR " + many + ": at", Say.ELEMENT, "at", many, 0, 0);
            refused("9 no CAR " + many + ": sees", Say.ELEMENT, "sees", many, 0);
            refused("9 no CAR " + many + ": cost", Say.ELEMENT, "cost", many, 0, 0);
            refused("9 no CAR " + many + ": answer", Say.ELEMENT, "answer", many, 0);
            refused("9 no CAR " + many + ": drives", Say.ELEMENT, "drives", many, 1, 0);
        }
        cars = TWO_CARS;
    }

    private static void fewerCoats() {
        coats = "";
        refused("9 no COATS: coat", Say.ELEMENT, "coat", 0, 0);
        refused("9 no COATS: sees", Say.ELEMENT, "sees", 0, 0);
        refused("9 no COATS: finds", Say.ELEMENT, "finds", 0, 0);
        refused("9 no COATS: stands", Say.ELEMENT, "stands", 0, 0, 0);
        coats = "coat 7 3;".repeat(10);
        elements("10 ten COATS: coat", "coat", 10, 0, 0, 0);
        elements("15 ten COATS: sees", "sees", 10, 1, 1, 0);
        elements("40 ten COATS: finds", "finds", 10, 0, 0, 1);
        elements("42 ten COATS: stands", "stands", 10, 0, 0, 19, 0);
        coats = TWO_COATS;
    }

    private static void tenths() {
        range("12 a TENTH (0 to 98)", "at", 0, 98, 1, 0, 0, 0);
        range("12 a TENTH (0 to 98) of CAR 1", "at", 0, 98, 1, 1, 0, 5);
    }

    private static void would() {
        range("17 reach (0 to 60)", "would", 0, 60, 0, 20, 1, 40, 0);
        range("17 blind (0 to 20)", "would", 0, 20, 1, 60, 1, 40, 0);
        range("17 age (17 to 99)", "would", 17, 99, 2, 20, 1, 40, 0);
        range("17 wet (0, 1)", "would", 0, 1, 3, 20, 1, 40, 0);
    }

    private static void games() {
        range("18 own d (0 to 60)", "cost", 0, 60, 1, 0, 5, 5);
        range("18 other d (0 to 60)", "cost", 0, 60, 2, 1, 5, 5);
        range("19 n (0 to 20)", "duel", 0, 20, 0, 5, 0);
        range("20 n (0 to 20)", "answer", 0, 20, 1, 1, 5);
        range("21 d (0 to 20)", "habit", 0, 20, 0, 5, 0);
    }

    private static void odds() {
        range("23 F (0 to 16)", "loaded", 0, 16, 0, 8, 3, 1, 1);
        range("23 n (0 to 6)", "loaded", 0, 6, 1, 8, 3, 0, 1);
        for (int n = 0; n <= 6; n++) {
            range("23 k (0 to n), n " + n, "loaded", 0, n, 2, 8, n, 0, 1);
        }
        range("24 AGE (17 to 99)", "blinds", 17, 99, 0, 40);
        range("25 n (0 to 20)", "old", 0, 20, 0, 5);
        range("26 AGE (17 to 99)", "between", 17, 99, 0, 40, 9);
        range("26 t (0 to 60)", "between", 0, 60, 1, 40, 9);
        range("27 own (1 to 40)", "gets", 1, 40, 0, 5, 6);
        range("27 other (1 to 40)", "gets", 1, 40, 1, 5, 6);
        range("28 n (1 to 20)", "bulbs", 1, 20, 0, 5, 2);
    }

    private static void nightsAndCells() {
        range("32 so many (1 to 20)", "nights", 1, 20, 1, 5, 5, 0);
        range("33 H (0 to 9)", "darkest", 0, 9, 0, 3);
        range("34 H (0 to 9)", "dark", 0, 9, 1, 1, 3);
        range("37 a CELL (of 20)", "needs", 0, 19, 0, 3);
    }

    private static void changes() {
        range("41 P (1 to 3)", "drives", 1, 3, 1, 1, 2, 4);
        range("41 TILT (0 to 9)", "drives", 0, 9, 2, 0, 2, 4);
        range("42 another CELL (of 20)", "stands", 0, 19, 1, 1, 5, 3);
        range("42 another H (0 to 9)", "stands", 0, 9, 2, 0, 5, 3);
        range("43 fog (0 to 9)", "weather", 0, 9, 0, 4, 4);
        range("43 B (0 to 9)", "weather", 0, 9, 1, 4, 4);
    }

    /** The TAPE has 20 bytes, and no CAR but 0 and 1 has a RULE. */
    private static void takenTexts() {
        for (String name : new String[] {"road", "law", "book"}) {
            range("3 n is 0 to the TAPE's bytes: " + name, name, 0, 20, 0, 0);
        }
        for (int car = 0; car < 2; car++) {
            range("5 n is 0 to the TAPE's bytes", "rule", 0, 20, 1, car, 0);
        }
        elements("5 another CAR", "rule", 2, 0, 0, 8);
        cars = "";
        elements("5 there or not", "rule", 2, 0, 0, 8);
        cars = TWO_CARS;
    }

    private static void notTwoCars() {
        int[][] calls = {{0, 1, 1}, {3, 0}, {0, 3}, {3, 0}, {}, {0}, {}, {0}};
        String[] names = {"cost", "duel", "answer", "habit", "distances", "look", "right", "paces"};
        for (int i = 0; i < names.length; i++) {
            cars = TWO_CARS;
            answered("18 two CARS: " + names[i], names[i], calls[i]);
            cars = "car 40 1 0;";
            refused("18 one CAR: " + names[i], Say.STATE, names[i], calls[i]);
            cars = "";
            boolean ofCar = names[i].equals("cost") || names[i].equals("answer");
            refused("18 no CARS: " + names[i], ofCar ? Say.ELEMENT : Say.STATE, names[i], calls[i]);
        }
        cars = TWO_CARS;
    }

    /** "ahead of others": a CAR or COAT that is not there, and every other number wrong. */
    private static void elementAheadOfArgument() {
        refused("5 rule", Say.ELEMENT, "rule", 2, 21);
        refused("5 rule", Say.ELEMENT, "rule", -1, -1);
        refused("9 car", Say.ELEMENT, "car", 2, 4);
        refused("9 coat", Say.ELEMENT, "coat", 2, 2);
        refused("9 at", Say.ELEMENT, "at", 2, 99, 6);
        refused("9 sums", Say.ELEMENT, "sums", 2, 6);
        refused("9 cost", Say.ELEMENT, "cost", 2, 61, 61);
        refused("9 answer", Say.ELEMENT, "answer", 2, 21);
        refused("9 safe", Say.ELEMENT, "safe", 2, 2);
        refused("9 dark", Say.ELEMENT, "dark", 2, 10);
        refused("9 dips", Say.ELEMENT, "dips", 2, 2);
        refused("9 gap", Say.ELEMENT, "gap", 2, 2);
        refused("9 finds", Say.ELEMENT, "finds", 2, 2);
        refused("9 drives", Say.ELEMENT, "drives", 2, 4, 10);
        refused("9 stands", Say.ELEMENT, "stands", 2, 20, 10);
    }

    /** "behind others": not two CARS, and a number that is wrong. */
    private static void argumentAheadOfState() {
        for (String some : List.of("", "car 40 1 0;")) {
            cars = some;
            refused("18 duel: n", Say.ARGUMENT, "duel", 21, 0);
            refused("18 duel: what", Say.ARGUMENT, "duel", 3, 4);
            refused("18 habit: d", Say.ARGUMENT, "habit", -1, 0);
            refused("18 habit: what", Say.ARGUMENT, "habit", 3, 4);
            refused("18 look", Say.ARGUMENT, "look", 2);
            refused("18 paces", Say.ARGUMENT, "paces", -1);
        }
        refused("18 cost: own", Say.ARGUMENT, "cost", 0, 61, 0);
        refused("18 cost: other", Say.ARGUMENT, "cost", 0, 0, -1);
        refused("18 cost: CAR", Say.ELEMENT, "cost", 1, 61, 0);
        refused("18 answer: n", Say.ARGUMENT, "answer", 0, 21);
        refused("18 answer: CAR", Say.ELEMENT, "answer", 1, 21);
        cars = TWO_CARS;
    }

    /** Calls for which the document names no exception answer whatever the numbers are. */
    private static void neverRefused() {
        int[] odd = {Integer.MIN_VALUE, -1, 3, 4, Integer.MAX_VALUE};
        for (int what : odd) {
            DipLights x = made();
            Kit.due("47 NONE for others: " + what, x.status(what), -1);
            Kit.due("48 NONE for others: " + what, x.count(what), -1);
            Kit.due("47 none of these is refused", Say.refusals(x), "0 0 0");
        }
        for (int seed : new int[] {Integer.MIN_VALUE, -1, 0, 1, Integer.MAX_VALUE}) {
            answered("32 every SEED: " + seed, "nights", seed, 20, 0);
            answered("2 every number: " + seed, "feed", seed, -seed, seed, seed - 1, ~seed);
        }
    }
}
