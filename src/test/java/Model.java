import java.util.ArrayDeque;
import java.util.ArrayList;
import java.util.Arrays;
import java.util.Deque;
import java.util.HashMap;
import java.util.HashSet;
import java.util.List;
import java.util.Map;
import java.util.NoSuchElementException;
import java.util.Set;
import java.util.TreeSet;
import java.util.regex.Matcher;
import java.util.regex.Pattern;

/**
 * The document once more, written for plainness and with the whole library, without a look at how the
 * class does it: COATS are SEEN and HIT while the MEETING goes, every game is gone through pair by pair,
 * texts are cut by patterns, IMAGES are copies.
 */
public final class Model {
    private static final int NONE = -1;

    static final class Fault extends RuntimeException {
        private static final long serialVersionUID = 1L;
        final int kind;
        final int place;

        Fault(int kind, int place) {
            this.kind = kind;
            this.place = place;
        }
    }

    interface Expression {
        int value(Map<String, Integer> v);
    }

    /** A text cut into pieces: numbers, words, and every other byte by itself. */
    static final class Pieces {
        final List<String> text = new ArrayList<>();
        final List<Integer> place = new ArrayList<>();
        int next = 0;

        Pieces(String whole) {
            Matcher m = Pattern.compile("[0-9]+|[a-z]+|[^ ]", Pattern.DOTALL).matcher(whole);
            while (m.find()) {
                text.add(m.group());
                place.add(m.start());
            }
            text.add("");
            place.add(whole.length());
        }

        String peek() {
            return text.get(next);
        }

        Fault fault(int kind) {
            return new Fault(kind, place.get(next));
        }

        boolean isNumber() {
            return peek().matches("[0-9]+");
        }

        int number(int low, int high) {
            if (!isNumber()) {
                throw fault(1);
            }
            java.math.BigInteger n = new java.math.BigInteger(peek());
            if (n.bitLength() > 30 || n.intValue() < low || n.intValue() > high) {
                throw fault(2);
            }
            next++;
            return n.intValue();
        }

        void sign(String s) {
            if (!peek().equals(s)) {
                throw fault(1);
            }
            next++;
        }
    }

    static final class Car implements Cloneable {
        int age;
        int p;
        int tilt;

        Car(int age, int p, int tilt) {
            this.age = age;
            this.p = p;
            this.tilt = tilt;
        }
    }

    static final class Night {
        int n = 40;
        Set<Integer> bends = new TreeSet<>();
        Set<Integer> wet = new TreeSet<>();
        List<int[]> coats = new ArrayList<>();
        int fog = 0;
        int b = 4;
        int f = 20;
        int d = 6;
        List<Car> cars = new ArrayList<>();

        Night copy() {
            Night c = new Night();
            c.n = n;
            c.bends = bends;
            c.wet = wet;
            for (int[] coat : coats) {
                c.coats.add(coat.clone());
            }
            c.fog = fog;
            c.b = b;
            c.f = f;
            c.d = d;
            for (Car car : cars) {
                c.cars.add(new Car(car.age, car.p, car.tilt));
            }
            return c;
        }
    }

    private String tape = "";
    private int place = NONE;
    private Night night = new Night();
    private Expression law = usualLaw();
    private Expression[] rules = {less(12), less(12)};
    private List<int[]> book = new ArrayList<>();
    private Deque<Night> undone = new ArrayDeque<>();
    private final Deque<Object[]> images = new ArrayDeque<>();
    private final int[] refused = new int[3];

    private static Expression usualLaw() {
        return v -> {
            int below = v.get("blind") + 1;
            return below == 0 ? 0 : (v.get("reach") - v.get("fog")) / below;
        };
    }

    private static Expression less(int d) {
        return v -> v.get("far") - d;
    }

    // ---- refusals

    private void element(boolean there) {
        if (!there) {
            refused[0]++;
            throw new NoSuchElementException();
        }
    }

    private void argument(boolean good) {
        if (!good) {
            refused[1]++;
            throw new IllegalArgumentException();
        }
    }

    private void two() {
        if (night.cars.size() < 2) {
            refused[2]++;
            throw new IllegalStateException();
        }
    }

    private static boolean in(int x, int low, int high) {
        return low <= x && x <= high;
    }

    private void carThere(int car) {
        element(in(car, 0, night.cars.size() - 1));
    }

    private void coatThere(int coat) {
        element(in(coat, 0, night.coats.size() - 1));
    }

    // ---- texts

    public int feed(int a, int b, int c, int d, int e) {
        if (tape.length() > 580) {
            return NONE;
        }
        StringBuilder more = new StringBuilder(tape);
        for (int number : new int[] {a, b, c, d, e}) {
            for (byte one : java.nio.ByteBuffer.allocate(4).putInt(number).array()) {
                more.append((char) (one & 255));
            }
        }
        tape = more.toString();
        return tape.length();
    }

    private String text(int n, int most) {
        argument(in(n, 0, Math.min(most, tape.length())));
        String text = tape.substring(0, n);
        tape = "";
        place = NONE;
        return text;
    }

    private int faulty(Fault fault) {
        place = fault.place;
        return fault.kind - 10;
    }

    public int road(int n) {
        String text = text(n, 600);
        Night read;
        try {
            read = readRoad(new Pieces(text));
        } catch (Fault fault) {
            return faulty(fault);
        }
        night = read;
        law = usualLaw();
        rules = new Expression[] {less(12), less(12)};
        book = new ArrayList<>();
        undone.clear();
        images.clear();
        return night.cars.size();
    }

    private static Night readRoad(Pieces p) {
        Night r = new Night();
        Map<String, Integer> had = new HashMap<>();
        Map<String, Integer> most = Map.of("bend", 6, "wet", 4, "coat", 10, "car", 2);
        int clauses = 0;
        while (!p.peek().isEmpty()) {
            String word = p.peek();
            if (!Set.of("length", "bend", "wet", "coat", "fog", "blind", "reach", "car").contains(word)) {
                throw p.fault(1);
            }
            int before = had.getOrDefault(word, 0);
            if (clauses >= 60 || before >= most.getOrDefault(word, 1000)) {
                throw p.fault(3);
            }
            if (word.equals("length") && clauses > 0) {
                throw p.fault(4);
            }
            had.put(word, before + 1);
            clauses++;
            p.next++;
            readClause(r, word, p);
            p.sign(";");
        }
        return r;
    }

    private static void readClause(Night r, String word, Pieces p) {
        switch (word) {
            case "length" -> r.n = p.number(10, 60);
            case "bend" -> r.bends.add(p.number(0, r.n - 1));
            case "wet" -> {
                int a = p.number(0, r.n - 1);
                int b = p.number(a, r.n - 1);
                for (int i = a; i <= b; i++) {
                    r.wet.add(i);
                }
            }
            case "coat" -> r.coats.add(new int[] {p.number(0, r.n - 1), p.number(0, 9)});
            case "fog" -> r.fog = p.number(0, 9);
            case "blind" -> r.b = p.number(0, 9);
            case "reach" -> {
                r.f = p.number(1, 40);
                r.d = p.number(1, 20);
            }
            default -> r.cars.add(new Car(p.number(17, 99), p.number(1, 3), p.number(0, 9)));
        }
    }

    private static Expression readExpression(String text) {
        Pieces p = new Pieces(text);
        Expression e = sum(p, 0);
        if (!p.peek().isEmpty()) {
            throw p.fault(1);
        }
        return e;
    }

    private static Expression sum(Pieces p, int open) {
        Expression left = product(p, open);
        while (p.peek().equals("+") || p.peek().equals("-")) {
            boolean plus = p.peek().equals("+");
            p.next++;
            Expression one = left;
            Expression other = product(p, open);
            left = plus ? v -> one.value(v) + other.value(v) : v -> one.value(v) - other.value(v);
        }
        return left;
    }

    private static Expression product(Pieces p, int open) {
        Expression left = unit(p, open);
        while (p.peek().equals("*") || p.peek().equals("/")) {
            boolean times = p.peek().equals("*");
            p.next++;
            Expression one = left;
            Expression other = unit(p, open);
            left = times ? v -> one.value(v) * other.value(v) : v -> {
                int by = other.value(v);
                return by == 0 ? 0 : (int) ((long) one.value(v) / by);
            };
        }
        return left;
    }

    private static Expression unit(Pieces p, int open) {
        String word = p.peek();
        if (p.isNumber()) {
            int n = p.number(0, 999);
            return v -> n;
        }
        boolean opens = word.equals("(") || word.equals("least") || word.equals("most");
        if (opens) {
            if (open == 6) {
                throw p.fault(3);
            }
            p.next++;
            if (word.equals("(")) {
                Expression inner = sum(p, open + 1);
                p.sign(")");
                return inner;
            }
            p.sign("[");
            Expression one = sum(p, open + 1);
            p.sign(",");
            Expression other = sum(p, open + 1);
            p.sign("]");
            return word.equals("least") ? v -> Math.min(one.value(v), other.value(v))
                    : v -> Math.max(one.value(v), other.value(v));
        }
        if (Set.of("reach", "fog", "blind", "age", "wet", "tilt", "pace", "tenth", "far", "met", "other", "mine")
                .contains(word)) {
            p.next++;
            return v -> v.get(word);
        }
        throw p.fault(1);
    }

    public int law(int n) {
        String text = text(n, 150);
        try {
            law = readExpression(text);
        } catch (Fault fault) {
            return faulty(fault);
        }
        return 1;
    }

    public int rule(int car, int n) {
        element(car == 0 || car == 1);
        String text = text(n, 150);
        try {
            rules[car] = readExpression(text);
        } catch (Fault fault) {
            return faulty(fault);
        }
        return 1;
    }

    public int book(int n) {
        Pieces p = new Pieces(text(n, 150));
        List<int[]> read = new ArrayList<>();
        Set<Integer> had = new HashSet<>();
        try {
            while (!p.peek().isEmpty()) {
                int t = p.number(0, 99);
                p.next--;
                if (!had.add(t)) {
                    throw p.fault(2);
                }
                if (read.size() == 12) {
                    throw p.fault(3);
                }
                p.next++;
                read.add(new int[] {t, p.number(0, 1)});
                p.sign(";");
            }
        } catch (Fault fault) {
            return faulty(fault);
        }
        book = read;
        return book.size();
    }

    public int fault() {
        return place;
    }

    // ---- the meeting

    /** One row for each TENTH a CAR is on the ROAD: cell, full, blind, sight, unsafe, view, dazzles. */
    static final class Run {
        final List<List<int[]>> rows = List.of(new ArrayList<>(), new ArrayList<>());
        final List<Set<Integer>> hit = List.of(new TreeSet<>(), new TreeSet<>());
        /** By CAR and COAT: at how many CELLS, in which TENTH. */
        final List<Map<Integer, int[]>> seen = List.of(new HashMap<>(), new HashMap<>());
        int tenths = 0;
        int passed = NONE;

        int unsafe(int car) {
            return (int) rows.get(car).stream().filter(r -> r[4] == 1).count();
        }

        int cost(int car) {
            return 10 * hit.get(car).size() + unsafe(car);
        }
    }

    private static boolean bendBetween(Night r, int a, int b) {
        for (int x = Math.min(a, b) + 1; x < Math.max(a, b); x++) {
            if (r.bends.contains(x)) {
                return true;
            }
        }
        return false;
    }

    private static int blindFor(Night r, int age) {
        return r.b + age / 20;
    }

    private Map<String, Integer> nobody(Night r) {
        Map<String, Integer> v = new HashMap<>();
        for (String name : List.of("reach", "blind", "age", "wet", "tilt", "pace", "tenth", "met", "other", "mine")) {
            v.put(name, 0);
        }
        v.put("fog", r.fog);
        v.put("far", 99);
        return v;
    }

    private int sight(Map<String, Integer> v) {
        int s = law.value(v);
        return s < 0 ? 0 : s > 60 ? 60 : s;
    }

    private Run meet(Night r, Expression[] by) {
        Run run = new Run();
        int cars = r.cars.size();
        int[] cell = {0, r.n - 1};
        int[] full = {1, 1};
        int[] blind = {0, 0};
        boolean passed = false;
        for (int t = 0; t < 99; t++) {
            boolean[] on = {cars > 0 && in(cell[0], 0, r.n - 1), cars > 1 && in(cell[1], 0, r.n - 1)};
            if (!on[0] && !on[1]) {
                break;
            }
            run.tenths = t + 1;
            if (cars == 2 && !passed && cell[0] >= cell[1]) {
                passed = true;
                run.passed = t;
            }
            boolean view = on[0] && on[1] && !passed && !bendBetween(r, cell[0], cell[1]);
            int far = view ? Math.abs(cell[0] - cell[1]) : 99;
            int[] newFull = full.clone();
            for (int c = 0; c < 2; c++) {
                if (on[c]) {
                    newFull[c] = by[c].value(told(r, c, t, cell, full, blind, view, far, passed)) > 0 ? 1 : 0;
                }
            }
            full = newFull;
            boolean[] dazzles = new boolean[2];
            for (int c = 0; c < 2; c++) {
                dazzles[c] = view && far <= 15 && (full[c] == 1 || r.cars.get(c).tilt >= 5);
            }
            for (int c = 0; c < 2; c++) {
                if (dazzles[1 - c]) {
                    blind[c] = Math.max(blind[c], blindFor(r, r.cars.get(c).age));
                } else if (blind[c] > 0) {
                    blind[c] -= 1;
                }
            }
            for (int c = 0; c < 2; c++) {
                if (on[c]) {
                    int s = sight(told(r, c, t, cell, full, blind, view, far, passed));
                    int stop = r.cars.get(c).p * (r.wet.contains(cell[c]) ? 4 : 2);
                    run.rows.get(c).add(new int[] {cell[c], full[c], blind[c], s, s < stop ? 1 : 0, view ? 1 : 0,
                        dazzles[c] ? 1 : 0});
                    seeAndHit(r, run, c, t, cell[c], s, stop);
                }
            }
            for (int c = 0; c < cars; c++) {
                cell[c] += c == 0 ? r.cars.get(c).p : -r.cars.get(c).p;
            }
        }
        return run;
    }

    private static void seeAndHit(Night r, Run run, int c, int t, int cell, int s, int stop) {
        int way = c == 0 ? 1 : -1;
        for (int i = 0; i < r.coats.size(); i++) {
            int x = r.coats.get(i)[0];
            boolean ahead = c == 0 ? x >= cell : x <= cell;
            int away = Math.abs(x - cell);
            if (ahead && s != 0 && away <= s + r.coats.get(i)[1] && !bendBetween(r, cell, x)) {
                run.seen.get(c).putIfAbsent(i, new int[] {away, t});
            }
            Set<Integer> through = new HashSet<>();
            for (int k = t == 0 ? 0 : 1; k <= r.cars.get(c).p; k++) {
                through.add(cell + way * k);
            }
            if (through.contains(x)) {
                int[] at = run.seen.get(c).get(i);
                if (at == null || at[0] < stop) {
                    run.hit.get(c).add(i);
                }
            }
        }
    }

    private Map<String, Integer> told(Night r, int c, int t, int[] cell, int[] full, int[] blind, boolean view,
            int far, boolean passed) {
        Map<String, Integer> v = nobody(r);
        Car car = r.cars.get(c);
        v.put("reach", full[c] == 1 ? r.f : r.d);
        v.put("blind", blind[c]);
        v.put("age", car.age);
        v.put("wet", r.wet.contains(cell[c]) ? 1 : 0);
        v.put("tilt", car.tilt);
        v.put("pace", car.p);
        v.put("tenth", t);
        v.put("far", far);
        v.put("met", passed ? 1 : 0);
        v.put("other", view ? full[1 - c] : 0);
        v.put("mine", full[c]);
        return v;
    }

    private Run meet() {
        return meet(night, rules);
    }

    private Run duelRun(int d0, int d1) {
        return meet(night, new Expression[] {less(d0), less(d1)});
    }

    // ---- answers

    public int told(int what) {
        argument(in(what, 0, 9));
        return new int[] {night.n, night.cars.size(), night.coats.size(), night.bends.size(), night.wet.size(),
            night.fog, night.b, book.size(), night.f, night.d}[what];
    }

    public int car(int car, int what) {
        carThere(car);
        argument(in(what, 0, 3));
        Car c = night.cars.get(car);
        return new int[] {c.age, c.p, c.tilt, car == 0 ? 0 : night.n - 1}[what];
    }

    public int coat(int coat, int what) {
        coatThere(coat);
        argument(in(what, 0, 1));
        return night.coats.get(coat)[what];
    }

    public int tenths() {
        return meet().tenths;
    }

    public int at(int car, int tenth, int what) {
        carThere(car);
        argument(in(tenth, 0, 98) && in(what, 0, 5));
        List<int[]> rows = meet().rows.get(car);
        return tenth < rows.size() ? rows.get(tenth)[what] : NONE;
    }

    public int passes() {
        return meet().passed;
    }

    public int hits(int car) {
        carThere(car);
        int bits = 0;
        for (int coat : meet().hit.get(car)) {
            bits += 1 << coat;
        }
        return bits;
    }

    public int sees(int car, int coat) {
        carThere(car);
        coatThere(coat);
        int[] at = meet().seen.get(car).get(coat);
        return at == null ? NONE : at[0];
    }

    public int sums(int car, int what) {
        carThere(car);
        argument(in(what, 0, 5));
        List<int[]> rows = meet().rows.get(car);
        int[] sum = new int[6];
        sum[5] = 1000;
        int before = 1;
        for (int[] row : rows) {
            sum[0] += row[4];
            sum[1] += row[6];
            sum[2] += row[2] > 0 ? 1 : 0;
            sum[3] += row[1];
            sum[4] += row[1] == before ? 0 : 1;
            sum[5] = Math.min(sum[5], row[3]);
            before = row[1];
        }
        return sum[what];
    }

    public int would(int reach, int blind, int age, int wet) {
        argument(in(reach, 0, 60) && in(blind, 0, 20) && in(age, 17, 99) && in(wet, 0, 1));
        Map<String, Integer> v = nobody(night);
        v.put("reach", reach);
        v.put("blind", blind);
        v.put("age", age);
        v.put("wet", wet);
        return sight(v);
    }

    public int cost(int car, int own, int other) {
        carThere(car);
        argument(in(own, 0, 60) && in(other, 0, 60));
        two();
        return (car == 0 ? duelRun(own, other) : duelRun(other, own)).cost(car);
    }

    public int duel(int n, int what) {
        argument(in(n, 0, 20) && in(what, 0, 3));
        two();
        int[][][] cost = new int[n + 1][n + 1][];
        for (int i = 0; i <= n; i++) {
            for (int j = 0; j <= n; j++) {
                Run run = duelRun(i, j);
                cost[i][j] = new int[] {run.cost(0), run.cost(1)};
            }
        }
        return game(cost, 0)[what];
    }

    /** How many RESTS, the first one, KIND, its cost together, the first one's together. */
    private static int[] game(int[][][] cost, int low) {
        int rests = 0;
        int first = NONE;
        int firstTogether = 0;
        int kind = NONE;
        int least = 0;
        int size = cost.length;
        for (int i = 0; i < size; i++) {
            for (int j = 0; j < size; j++) {
                boolean rest = true;
                for (int k = 0; k < size; k++) {
                    rest &= cost[k][j][0] >= cost[i][j][0] && cost[i][k][1] >= cost[i][j][1];
                }
                int together = cost[i][j][0] + cost[i][j][1];
                int name = 100 * (i + low) + j + low;
                if (rest) {
                    rests++;
                    if (first == NONE) {
                        first = name;
                        firstTogether = together;
                    }
                }
                if (kind == NONE || together < least) {
                    kind = name;
                    least = together;
                }
            }
        }
        return new int[] {rests, first, kind, least, firstTogether};
    }

    public int answer(int car, int n) {
        carThere(car);
        argument(in(n, 0, 20));
        two();
        int best = 0;
        int[] cost = new int[n + 1];
        for (int d = 0; d <= n; d++) {
            Expression[] by = rules.clone();
            by[car] = less(d);
            cost[d] = meet(night, by).cost(car);
            if (cost[d] < cost[best]) {
                best = d;
            }
        }
        return best;
    }

    public int habit(int d, int what) {
        argument(in(d, 0, 20) && in(what, 0, 3));
        two();
        List<Integer> way = new ArrayList<>();
        int now = d;
        while (!way.contains(now)) {
            way.add(now);
            Run run = meet(night, new Expression[] {less(now), rules[1]});
            boolean wasBlind = run.rows.get(0).stream().anyMatch(r -> r[2] > 0);
            now = wasBlind ? Math.min(20, now + 1) : Math.max(0, now - 1);
        }
        int till = way.indexOf(now);
        List<Integer> round = way.subList(till, way.size());
        return new int[] {till, round.size(), round.stream().min(Integer::compare).get(),
            round.stream().max(Integer::compare).get()}[what];
    }

    public int safe(int car, int full) {
        carThere(car);
        argument(in(full, 0, 1));
        int best = 0;
        for (int p = 1; p <= 9; p++) {
            Map<String, Integer> v = nobody(night);
            v.put("reach", full == 1 ? night.f : night.d);
            v.put("age", night.cars.get(car).age);
            v.put("tilt", night.cars.get(car).tilt);
            v.put("pace", p);
            v.put("mine", full);
            if (2 * p <= sight(v)) {
                best = p;
            }
        }
        return best;
    }

    public long loaded(int f, int n, int k, int part) {
        argument(in(f, 0, 16) && in(n, 0, 6) && in(k, 0, n) && in(part, 0, 1));
        java.math.BigInteger full = java.math.BigInteger.valueOf(f);
        java.math.BigInteger load = java.math.BigInteger.valueOf(16 - f);
        for (int i = 0; i < n; i++) {
            full = full.multiply(java.math.BigInteger.valueOf(i < k ? 12 : 4));
            load = load.multiply(java.math.BigInteger.valueOf(i < k ? 5 : 11));
        }
        java.math.BigInteger all = full.add(load);
        java.math.BigInteger common = full.gcd(all);
        return (part == 0 ? full : all).divide(common).longValueExact();
    }

    public int blinds(int age) {
        argument(in(age, 17, 99));
        return blindFor(night, age);
    }

    public int old(int n) {
        argument(in(n, 0, 20));
        int oldest = NONE;
        for (int age = 99; age >= 17; age--) {
            oldest = blindFor(night, age) > n ? age : oldest;
        }
        return oldest;
    }

    public boolean between(int age, int t) {
        argument(in(age, 17, 99) && in(t, 0, 60));
        int left = t;
        left -= blindFor(night, age);
        left -= 3;
        return left > 1;
    }

    public int gets(int own, int other) {
        argument(in(own, 1, 40) && in(other, 1, 40));
        return got(own, other);
    }

    private static int got(int own, int other) {
        int less = other > own ? (other - own) * (other - own) : 0;
        return own + own + own - less - (own + other) / 2;
    }

    public int bulbs(int n, int what) {
        argument(in(n, 1, 20) && in(what, 0, 2));
        int[][][] cost = new int[n][n][];
        for (int i = 1; i <= n; i++) {
            for (int j = 1; j <= n; j++) {
                cost[i - 1][j - 1] = new int[] {-got(i, j), -got(j, i)};
            }
        }
        int[] found = game(cost, 1);
        return what == 2 ? -found[4] : found[what];
    }

    private TreeSet<Integer> atDistances() {
        TreeSet<Integer> fits = new TreeSet<>();
        for (int d = 0; d <= 40; d++) {
            List<int[]> rows = meet(night, new Expression[] {rules[0], less(d)}).rows.get(1);
            boolean good = true;
            for (int[] line : book) {
                good &= line[0] < rows.size() && rows.get(line[0])[1] == line[1];
            }
            if (good) {
                fits.add(d);
            }
        }
        return fits;
    }

    public long distances() {
        two();
        long bits = 0;
        for (int d : atDistances()) {
            bits += 1L << d;
        }
        return bits;
    }

    public int look(int what) {
        argument(in(what, 0, 1));
        two();
        Map<Integer, List<int[]>> by = new HashMap<>();
        for (int d : atDistances()) {
            by.put(d, meet(night, new Expression[] {rules[0], less(d)}).rows.get(1));
        }
        int[] best = {NONE, NONE};
        int on = meet().rows.get(1).size();
        for (int t = 0; t < on; t++) {
            int at = t;
            if (book.stream().anyMatch(line -> line[0] == at)) {
                continue;
            }
            int full = (int) by.values().stream().filter(rows -> rows.get(at)[1] == 1).count();
            int worst = Math.max(full, by.size() - full);
            if (best[0] == NONE || worst < best[1]) {
                best = new int[] {t, worst};
            }
        }
        return best[what];
    }

    public int right() {
        two();
        List<int[]> rows = meet().rows.get(1);
        int lines = 0;
        for (int[] line : book) {
            if (line[0] >= rows.size() || rows.get(line[0])[1] != line[1]) {
                break;
            }
            lines++;
        }
        return lines;
    }

    public int nights(int seed, int many, int what) {
        argument(in(many, 1, 20) && in(what, 0, 3));
        long s = seed & 0xffffffffL;
        int[] sum = new int[4];
        for (int i = 0; i < many; i++) {
            Night other = night.copy();
            for (int[] coat : other.coats) {
                s = (s * 1103515245L + 12345L) & 0xffffffffL;
                coat[0] = (int) (((s >> 16) & 0x7fff) % other.n);
            }
            Run run = meet(other, rules);
            int one = run.hit.get(0).size();
            int two = run.hit.get(1).size();
            sum[0] += one;
            sum[1] += two;
            sum[2] += one + two == 0 ? 1 : 0;
            sum[3] = Math.max(sum[3], one + two);
        }
        return sum[what];
    }

    /** As bits: the CARS that HIT one who stands there alone. */
    private int hitThere(int x, int h) {
        Night other = night.copy();
        other.coats.clear();
        other.coats.add(new int[] {x, h});
        Run run = meet(other, rules);
        return run.hit.get(0).size() + 2 * run.hit.get(1).size();
    }

    public int darkest(int h) {
        argument(in(h, 0, 9));
        int[] best = {NONE, 0};
        for (int x = 0; x < night.n; x++) {
            int cars = Integer.bitCount(hitThere(x, h));
            if (cars > best[1]) {
                best = new int[] {x, cars};
            }
        }
        return best[0];
    }

    public int dark(int car, int h) {
        carThere(car);
        argument(in(h, 0, 9));
        int cells = 0;
        for (int x = 0; x < night.n; x++) {
            cells += hitThere(x, h) >> car & 1;
        }
        return cells;
    }

    public int dips(int car, int what) {
        carThere(car);
        argument(in(what, 0, 1));
        int[] found = {NONE, NONE};
        List<int[]> rows = meet().rows.get(car);
        for (int t = 0; t < rows.size(); t++) {
            if (found[0] == NONE && rows.get(t)[1] == 0) {
                found[0] = t;
            }
            if (found[0] != NONE && found[1] == NONE && rows.get(t)[1] == 1) {
                found[1] = t;
            }
        }
        return found[what];
    }

    public int gap(int car, int what) {
        carThere(car);
        argument(in(what, 0, 1));
        List<int[]> rows = meet().rows.get(car);
        int[] best = {0, NONE};
        for (int from = 0; from < rows.size(); from++) {
            int to = from;
            while (to < rows.size() && rows.get(to)[4] == 1) {
                to++;
            }
            if (to - from > best[0]) {
                best = new int[] {to - from, from};
            }
        }
        return best[what];
    }

    public int needs(int x) {
        argument(in(x, 0, night.n - 1));
        for (int h = 0; h < 10; h++) {
            if (hitThere(x, h) == 0) {
                return h;
            }
        }
        return NONE;
    }

    public int clear(int car) {
        carThere(car);
        for (int fog = 9; fog >= 0; fog--) {
            Night other = night.copy();
            other.fog = fog;
            if (meet(other, rules).hit.get(car).isEmpty()) {
                return fog;
            }
        }
        return NONE;
    }

    public int paces(int what) {
        argument(in(what, 0, 1));
        two();
        List<int[]> all = new ArrayList<>();
        for (int p = 1; p <= 3; p++) {
            for (int q = 1; q <= 3; q++) {
                Night other = night.copy();
                other.cars.get(0).p = p;
                other.cars.get(1).p = q;
                Run run = meet(other, rules);
                all.add(new int[] {run.hit.get(0).size() + run.hit.get(1).size(), -(p + q), 10 * p + q});
            }
        }
        all.sort(Arrays::compare);
        return what == 0 ? all.get(0)[2] : all.get(0)[0];
    }

    public int finds(int coat, int what) {
        coatThere(coat);
        argument(in(what, 0, 1));
        Run run = meet();
        int[] best = {NONE, NONE};
        for (int c = 1; c >= 0; c--) {
            int[] at = run.seen.get(c).get(coat);
            if (at != null && (best[0] == NONE || at[1] <= best[1])) {
                best = new int[] {c, at[1]};
            }
        }
        return best[what];
    }

    private boolean changeable() {
        if (undone.size() == 20) {
            return false;
        }
        undone.push(night);
        night = night.copy();
        return true;
    }

    public int drives(int car, int p, int tilt) {
        carThere(car);
        argument(in(p, 1, 3) && in(tilt, 0, 9));
        if (!changeable()) {
            return 0;
        }
        night.cars.get(car).p = p;
        night.cars.get(car).tilt = tilt;
        return 1;
    }

    public int stands(int coat, int x, int h) {
        coatThere(coat);
        argument(in(x, 0, night.n - 1) && in(h, 0, 9));
        if (!changeable()) {
            return 0;
        }
        night.coats.set(coat, new int[] {x, h});
        return 1;
    }

    public int weather(int fog, int b) {
        argument(in(fog, 0, 9) && in(b, 0, 9));
        if (!changeable()) {
            return 0;
        }
        night.fog = fog;
        night.b = b;
        return 1;
    }

    public int undo() {
        if (undone.isEmpty()) {
            return -1;
        }
        night = undone.pop();
        return undone.size();
    }

    public int image() {
        if (images.size() == 3) {
            return -1;
        }
        images.push(new Object[] {night.copy(), new ArrayDeque<>(undone)});
        return images.size();
    }

    @SuppressWarnings("unchecked")
    public int restore() {
        if (images.isEmpty()) {
            return -1;
        }
        Object[] kept = images.pop();
        night = (Night) kept[0];
        undone = (Deque<Night>) kept[1];
        return images.size();
    }

    public int status(int what) {
        return in(what, 0, 2) ? refused[what] : NONE;
    }

    public int count(int what) {
        return what == 0 ? images.size() : what == 1 ? tape.length() : what == 2 ? undone.size() : NONE;
    }
}
