import java.util.NoSuchElementException;

/** Two cars that meet on a road by night, and when each of them dips his beams. */
public final class DipLights {
    public static final int NONE = -1;

    private static final int TAPE_BYTES = 600;
    private static final int TEXT_BYTES = 150;
    private static final int FED_BYTES = 20;

    private static final int MOST_CELLS = 60;
    private static final int MOST_TENTHS = 99;
    private static final int MOST_CLAUSES = 60;
    private static final int MOST_BENDS = 6;
    private static final int MOST_WETS = 4;
    private static final int MOST_COATS = 10;
    private static final int MOST_CARS = 2;
    private static final int MOST_LINES = 12;
    private static final int MOST_OPEN = 6;
    private static final int MOST_CHANGES = 20;
    private static final int MOST_IMAGES = 3;

    private static final int LEAST_AGE = 17;
    private static final int MOST_AGE = 99;
    private static final int MOST_BRIGHT = 9;
    private static final int MOST_FOG = 9;
    private static final int MOST_BLIND = 9;
    private static final int MOST_PACE = 3;
    private static final int MOST_TILT = 9;
    private static final int MOST_SAFE_PACE = 9;
    private static final int DAZZLING_TILT = 5;
    private static final int DAZZLING_CELLS = 15;
    private static final int NOT_IN_VIEW = 99;
    private static final int MOST_DUEL = 20;
    private static final int MOST_HABIT = 20;
    private static final int MOST_COST_DISTANCE = 60;
    private static final int MOST_BOOK_DISTANCE = 40;
    private static final int MOST_BULB = 40;
    private static final int HIT_COST = 10;
    // More than any cost, and more than HITS there can be.
    private static final int BEYOND_ALL = 1000000;

    private static final int FAULT_PLACE = 1;
    private static final int FAULT_NUMBER = 2;
    private static final int FAULT_MANY = 3;
    private static final int FAULT_LENGTH = 4;

    private static final int TOKEN_END = 0;
    private static final int TOKEN_NUMBER = 1;
    private static final int TOKEN_WORD = 2;
    private static final int TOKEN_SIGN = 3;

    private static final int CLAUSE_LENGTH = 0;
    private static final int CLAUSE_BEND = 1;
    private static final int CLAUSE_WET = 2;
    private static final int CLAUSE_COAT = 3;
    private static final int CLAUSE_FOG = 4;
    private static final int CLAUSE_BLIND = 5;
    private static final int CLAUSE_REACH = 6;
    private static final int CLAUSE_CAR = 7;

    private static final int V_REACH = 0;
    private static final int V_FOG = 1;
    private static final int V_BLIND = 2;
    private static final int V_AGE = 3;
    private static final int V_WET = 4;
    private static final int V_TILT = 5;
    private static final int V_PACE = 6;
    private static final int V_TENTH = 7;
    private static final int V_FAR = 8;
    private static final int V_MET = 9;
    private static final int V_OTHER = 10;
    private static final int V_MINE = 11;
    private static final int VARIABLES = 12;

    private static final int CHANGE_DRIVES = 0;
    private static final int CHANGE_STANDS = 1;
    private static final int CHANGE_WEATHER = 2;

    private static final int REFUSED_ELEMENT = 0;
    private static final int REFUSED_ARGUMENT = 1;
    private static final int REFUSED_STATE = 2;

    private final Tape tape = new Tape();

    private final Told told = new Told();
    // A text with a FAULT must leave all as it is, so each kind is read into a spare first.
    private Road spareRoad = new Road();
    private Formula spareFormula = new Formula();
    private Book book = new Book();
    private Book spareBook = new Book();

    private final Meeting meeting = new Meeting();
    private boolean meetingFresh = false;
    private final Meeting trial = new Meeting();
    private final Game duelGame = new Game();
    private int duelFilled = NONE;
    private final Game bulbGame = new Game();
    private final int[] visits = new int[MOST_HABIT + 1];

    private final Changes changes = new Changes();
    private final int[] refused = new int[3];

    public DipLights() {
    }

    // ---- Texts ----

    public int feed(int a, int b, int c, int d, int e) {
        if (tape.fed + FED_BYTES > TAPE_BYTES) {
            return NONE;
        }
        tape.put(a);
        tape.put(b);
        tape.put(c);
        tape.put(d);
        tape.put(e);
        return tape.fed;
    }

    public int road(int n) throws IllegalArgumentException {
        takeText(n, TAPE_BYTES);
        if (!spareRoad.readFrom(tape)) {
            return tape.answerOfFault();
        }
        Road before = told.road;
        told.road = spareRoad;
        spareRoad = before;
        told.forgetFormulas();
        book.lines = 0;
        changes.forgetAll();
        meetingChanged();
        return told.road.cars;
    }

    public int law(int n) throws IllegalArgumentException {
        takeText(n, TEXT_BYTES);
        if (!spareFormula.readFrom(tape)) {
            return tape.answerOfFault();
        }
        Formula before = told.law;
        told.law = spareFormula;
        spareFormula = before;
        meetingChanged();
        return 1;
    }

    public int rule(int car, int n) throws NoSuchElementException, IllegalArgumentException {
        needElement(car >= 0 && car < MOST_CARS);
        takeText(n, TEXT_BYTES);
        if (!spareFormula.readFrom(tape)) {
            return tape.answerOfFault();
        }
        spareFormula = told.swapRule(car, spareFormula);
        meetingChanged();
        return 1;
    }

    public int book(int n) throws IllegalArgumentException {
        takeText(n, TEXT_BYTES);
        if (!spareBook.readFrom(tape)) {
            return tape.answerOfFault();
        }
        Book before = book;
        book = spareBook;
        spareBook = before;
        return book.lines;
    }

    public int fault() {
        return tape.place;
    }

    private void takeText(int n, int most) {
        needArgument(n >= 0 && n <= most && n <= tape.fed);
        tape.beginText(n);
    }

    private void meetingChanged() {
        meetingFresh = false;
        duelFilled = NONE;
    }

    // ---- What is told ----

    public int told(int what) throws IllegalArgumentException {
        needRange(what, 0, 9);
        Road road = told.road;
        switch (what) {
            case 0: return road.cells;
            case 1: return road.cars;
            case 2: return road.coats;
            case 3: return road.bends;
            case 4: return road.wetCells();
            case 5: return road.fog;
            case 6: return road.blind;
            case 7: return book.lines;
            case 8: return road.reachFull;
            default: return road.reachDipped;
        }
    }

    public int car(int car, int what) throws NoSuchElementException, IllegalArgumentException {
        needCar(car);
        needRange(what, 0, 3);
        Road road = told.road;
        switch (what) {
            case 0: return road.age[car];
            case 1: return road.pace[car];
            case 2: return road.tilt[car];
            default: return road.startOf(car);
        }
    }

    public int coat(int coat, int what) throws NoSuchElementException, IllegalArgumentException {
        needCoat(coat);
        needRange(what, 0, 1);
        return what == 0 ? told.road.coatCell[coat] : told.road.coatBright[coat];
    }

    // ---- The MEETING ----

    private Meeting freshMeeting() {
        if (!meetingFresh) {
            meeting.run(told, NONE, NONE);
            meetingFresh = true;
        }
        return meeting;
    }

    public int tenths() {
        return freshMeeting().tenths;
    }

    public int at(int car, int tenth, int what) throws NoSuchElementException, IllegalArgumentException {
        needCar(car);
        needRange(tenth, 0, MOST_TENTHS - 1);
        needRange(what, 0, 5);
        Meeting now = freshMeeting();
        Trip trip = now.tripOf(car);
        if (tenth >= trip.tenths) {
            return NONE;
        }
        switch (what) {
            case 0: return trip.cell[tenth];
            case 1: return trip.beams[tenth];
            case 2: return trip.blind[tenth];
            case 3: return trip.sight[tenth];
            case 4: return trip.unsafe(tenth);
            default: return now.inView(tenth) ? 1 : 0;
        }
    }

    public int passes() {
        return freshMeeting().passedIn;
    }

    public int hits(int car) throws NoSuchElementException {
        needCar(car);
        return freshMeeting().hitBits(told.road, car);
    }

    public int sees(int car, int coat) throws NoSuchElementException {
        needCar(car);
        needCoat(coat);
        Trip trip = freshMeeting().tripOf(car);
        int cell = told.road.coatCell[coat];
        int tenth = trip.seenIn(told.road, cell, told.road.coatBright[coat]);
        return tenth == NONE ? NONE : trip.ahead(tenth, cell);
    }

    public int sums(int car, int what) throws NoSuchElementException, IllegalArgumentException {
        needCar(car);
        needRange(what, 0, 5);
        Trip trip = freshMeeting().tripOf(car);
        switch (what) {
            case 0: return trip.unsafeTenths();
            case 1: return trip.glareTenths();
            case 2: return trip.blindTenths();
            case 3: return trip.fullTenths();
            case 4: return trip.beamChanges();
            default: return trip.leastSight();
        }
    }

    public int would(int reach, int blind, int age, int wet) throws IllegalArgumentException {
        needRange(reach, 0, 60);
        needRange(blind, 0, 20);
        needRange(age, LEAST_AGE, MOST_AGE);
        needRange(wet, 0, 1);
        int[] values = told.valuesOfNobody();
        values[V_REACH] = reach;
        values[V_BLIND] = blind;
        values[V_AGE] = age;
        values[V_WET] = wet;
        return told.sightByLaw();
    }

    // ---- Dipping as a game ----

    public int cost(int car, int own, int other)
            throws NoSuchElementException, IllegalArgumentException, IllegalStateException {
        needCar(car);
        needRange(own, 0, MOST_COST_DISTANCE);
        needRange(other, 0, MOST_COST_DISTANCE);
        needTwoCars();
        trial.run(told, car == 0 ? own : other, car == 0 ? other : own);
        return trial.costOf(told.road, car);
    }

    public int duel(int n, int what) throws IllegalArgumentException, IllegalStateException {
        needRange(n, 0, MOST_DUEL);
        needRange(what, 0, 3);
        needTwoCars();
        fillDuel(freshMeeting(), n);
        int size = n + 1;
        switch (what) {
            case 0: return duelGame.restsOf(size);
            case 1: return pairNumber(duelGame.firstRest(size), 0);
            case 2: return pairNumber(duelGame.kindest(size), 0);
            default: return duelGame.together(duelGame.kindest(size));
        }
    }

    /** 100 times the one's choice, and the other one's, the least choice being told; NONE stays NONE. */
    private static int pairNumber(int place, int least) {
        if (place < 0) {
            return NONE;
        }
        return 100 * (place / Game.SIDE + least) + place % Game.SIDE + least;
    }

    /**
     * far - d and far - (d less 1) give other beams only where somebody is just d CELLS away:
     * elsewhere the costs are those of the neighbour, and no MEETING has to be gone through.
     */
    private void fillDuel(Meeting base, int n) {
        if (duelFilled >= n) {
            return;
        }
        for (int i = 0; i <= n; i++) {
            for (int j = 0; j <= n; j++) {
                if (i > 0 && !base.everApartBy(i)) {
                    duelGame.copy(i, j, i - 1, j);
                } else if (j > 0 && !base.everApartBy(j)) {
                    duelGame.copy(i, j, i, j - 1);
                } else {
                    trial.run(told, i, j);
                    duelGame.put(i, j, trial.costOf(told.road, 0), trial.costOf(told.road, 1));
                }
            }
        }
        duelFilled = n;
    }

    public int answer(int car, int n)
            throws NoSuchElementException, IllegalArgumentException, IllegalStateException {
        needCar(car);
        needRange(n, 0, MOST_DUEL);
        needTwoCars();
        int best = 0;
        int least = BEYOND_ALL;
        for (int d = 0; d <= n; d++) {
            trial.run(told, car == 0 ? d : NONE, car == 0 ? NONE : d);
            int cost = trial.costOf(told.road, car);
            if (cost < least) {
                least = cost;
                best = d;
            }
        }
        return best;
    }

    public int habit(int d, int what) throws IllegalArgumentException, IllegalStateException {
        needRange(d, 0, MOST_HABIT);
        needRange(what, 0, 3);
        needTwoCars();
        for (int i = 0; i <= MOST_HABIT; i++) {
            visits[i] = NONE;
        }
        int now = d;
        int meetings = 0;
        while (meetings <= MOST_HABIT && visits[now] == NONE) {
            visits[now] = meetings;
            meetings++;
            now = nextHabit(now);
        }
        int till = visits[now];
        switch (what) {
            case 0: return till;
            case 1: return meetings - till;
            case 2: return leastVisited(till);
            default: return greatestVisited(till);
        }
    }

    private int nextHabit(int d) {
        trial.run(told, d, NONE);
        if (trial.tripOf(0).blindTenths() > 0) {
            return Math.min(d + 1, MOST_HABIT);
        }
        return Math.max(d - 1, 0);
    }

    private int leastVisited(int from) {
        for (int d = 0; d <= MOST_HABIT; d++) {
            if (visits[d] >= from) {
                return d;
            }
        }
        return NONE;
    }

    private int greatestVisited(int from) {
        for (int d = MOST_HABIT; d >= 0; d--) {
            if (visits[d] >= from) {
                return d;
            }
        }
        return NONE;
    }

    // ---- Paces, odds, ages, bulbs ----

    public int safe(int car, int full) throws NoSuchElementException, IllegalArgumentException {
        needCar(car);
        needRange(full, 0, 1);
        Road road = told.road;
        int[] values = told.valuesOfNobody();
        values[V_REACH] = road.reachBy(full);
        values[V_AGE] = road.age[car];
        values[V_TILT] = road.tilt[car];
        values[V_MINE] = full;
        for (int pace = MOST_SAFE_PACE; pace >= 1; pace--) {
            values[V_PACE] = pace;
            if (2 * pace <= told.sightByLaw()) {
                return pace;
            }
        }
        return 0;
    }

    public long loaded(int f, int n, int k, int part) throws IllegalArgumentException {
        needRange(f, 0, 16);
        needRange(n, 0, 6);
        needRange(k, 0, n);
        needRange(part, 0, 1);
        long full = f * power(12, k) * power(4, n - k);
        long all = full + (16 - f) * power(5, k) * power(11, n - k);
        long common = commonDivisor(full, all);
        if (common == 0) {
            return 0;
        }
        return part == 0 ? full / common : all / common;
    }

    private static long power(int base, int times) {
        long product = 1;
        for (int i = 0; i < times; i++) {
            product *= base;
        }
        return product;
    }

    private static long commonDivisor(long a, long b) {
        long one = a;
        long other = b;
        // Euclid's way over numbers of 63 bits takes fewer than a hundred steps.
        for (int i = 0; i < 200 && other != 0; i++) {
            long rest = one % other;
            one = other;
            other = rest;
        }
        return one;
    }

    public int blinds(int age) throws IllegalArgumentException {
        needRange(age, LEAST_AGE, MOST_AGE);
        return told.road.blindFor(age);
    }

    public int old(int n) throws IllegalArgumentException {
        needRange(n, 0, 20);
        for (int age = LEAST_AGE; age <= MOST_AGE; age++) {
            if (told.road.blindFor(age) > n) {
                return age;
            }
        }
        return NONE;
    }

    public boolean between(int age, int t) throws IllegalArgumentException {
        needRange(age, LEAST_AGE, MOST_AGE);
        needRange(t, 0, 60);
        return t - told.road.blindFor(age) - 3 >= 2;
    }

    public int gets(int own, int other) throws IllegalArgumentException {
        needRange(own, 1, MOST_BULB);
        needRange(other, 1, MOST_BULB);
        return gain(own, other);
    }

    private static int gain(int own, int other) {
        int above = Math.max(0, other - own);
        return 3 * own - above * above - (own + other) / 2;
    }

    public int bulbs(int n, int what) throws IllegalArgumentException {
        needRange(n, 1, 20);
        needRange(what, 0, 2);
        // To get more is to have less of a cost.
        for (int i = 0; i < n; i++) {
            for (int j = 0; j < n; j++) {
                bulbGame.put(i, j, -gain(i + 1, j + 1), -gain(j + 1, i + 1));
            }
        }
        switch (what) {
            case 0: return bulbGame.restsOf(n);
            case 1: return pairNumber(bulbGame.firstRest(n), 1);
            default: return -bulbGame.together(bulbGame.firstRest(n));
        }
    }

    // ---- At how far he dipped ----

    public long distances() throws IllegalStateException {
        needTwoCars();
        return distanceBits(freshMeeting());
    }

    private long distanceBits(Meeting now) {
        long bits = 0;
        for (int d = 0; d <= MOST_BOOK_DISTANCE; d++) {
            if (bookFits(now, d)) {
                bits |= 1L << d;
            }
        }
        return bits;
    }

    private boolean bookFits(Meeting now, int d) {
        for (int i = 0; i < book.lines; i++) {
            int tenth = book.tenth[i];
            if (tenth >= now.tripOf(1).tenths || now.beamsBy(d, tenth) != book.full[i]) {
                return false;
            }
        }
        return true;
    }

    public int look(int what) throws IllegalArgumentException, IllegalStateException {
        needRange(what, 0, 1);
        needTwoCars();
        Meeting now = freshMeeting();
        long bits = distanceBits(now);
        int best = NONE;
        int least = NONE;
        for (int tenth = 0; tenth < now.tripOf(1).tenths; tenth++) {
            int worst = worstLeft(now, bits, tenth);
            if (!book.tells(tenth) && (best == NONE || worst < least)) {
                best = tenth;
                least = worst;
            }
        }
        return what == 0 ? best : least;
    }

    private static int worstLeft(Meeting now, long bits, int tenth) {
        int full = 0;
        int dipped = 0;
        for (int d = 0; d <= MOST_BOOK_DISTANCE; d++) {
            if ((bits >>> d & 1L) != 0) {
                int beams = now.beamsBy(d, tenth);
                full += beams;
                dipped += 1 - beams;
            }
        }
        return Math.max(full, dipped);
    }

    public int right() throws IllegalStateException {
        needTwoCars();
        Trip trip = freshMeeting().tripOf(1);
        int lines = 0;
        while (lines < book.lines) {
            int tenth = book.tenth[lines];
            if (tenth >= trip.tenths || trip.beams[tenth] != book.full[lines]) {
                return lines;
            }
            lines++;
        }
        return lines;
    }

    // ---- COATS elsewhere ----

    public int nights(int seed, int many, int what) throws IllegalArgumentException {
        needRange(many, 1, 20);
        needRange(what, 0, 3);
        Road road = told.road;
        Meeting now = freshMeeting();
        int next = seed;
        int first = 0;
        int second = 0;
        int quiet = 0;
        int most = 0;
        for (int night = 0; night < many; night++) {
            int one = 0;
            int other = 0;
            for (int coat = 0; coat < road.coats; coat++) {
                next = next * 1103515245 + 12345;
                int cell = road.cellOfDraw(next >>> 16 & 32767);
                one += now.hitBy(road, 0, cell, road.coatBright[coat]);
                other += now.hitBy(road, 1, cell, road.coatBright[coat]);
            }
            first += one;
            second += other;
            quiet += one + other == 0 ? 1 : 0;
            most = Math.max(most, one + other);
        }
        switch (what) {
            case 0: return first;
            case 1: return second;
            case 2: return quiet;
            default: return most;
        }
    }

    public int darkest(int h) throws IllegalArgumentException {
        needRange(h, 0, MOST_BRIGHT);
        int best = NONE;
        int most = 0;
        for (int cell = 0; cell < told.road.cells; cell++) {
            int cars = freshMeeting().hitByCars(told.road, cell, h);
            if (cars > most) {
                most = cars;
                best = cell;
            }
        }
        return best;
    }

    public int dark(int car, int h) throws NoSuchElementException, IllegalArgumentException {
        needCar(car);
        needRange(h, 0, MOST_BRIGHT);
        int cells = 0;
        for (int cell = 0; cell < told.road.cells; cell++) {
            cells += freshMeeting().hitBy(told.road, car, cell, h);
        }
        return cells;
    }

    public int dips(int car, int what) throws NoSuchElementException, IllegalArgumentException {
        needCar(car);
        needRange(what, 0, 1);
        Trip trip = freshMeeting().tripOf(car);
        int dipped = trip.firstBeams(0, 0);
        if (what == 0 || dipped == NONE) {
            return dipped;
        }
        return trip.firstBeams(1, dipped);
    }

    public int gap(int car, int what) throws NoSuchElementException, IllegalArgumentException {
        needCar(car);
        needRange(what, 0, 1);
        Trip trip = freshMeeting().tripOf(car);
        int longest = 0;
        int begin = NONE;
        int row = 0;
        for (int tenth = 0; tenth < trip.tenths; tenth++) {
            row = trip.unsafe(tenth) == 1 ? row + 1 : 0;
            if (row > longest) {
                longest = row;
                begin = tenth - row + 1;
            }
        }
        return what == 0 ? longest : begin;
    }

    public int needs(int x) throws IllegalArgumentException {
        needRange(x, 0, told.road.cells - 1);
        for (int bright = 0; bright <= MOST_BRIGHT; bright++) {
            if (freshMeeting().hitByCars(told.road, x, bright) == 0) {
                return bright;
            }
        }
        return NONE;
    }

    public int clear(int car) throws NoSuchElementException {
        needCar(car);
        Road road = told.road;
        int before = road.fog;
        int best = NONE;
        for (int fog = 0; fog <= MOST_FOG; fog++) {
            road.fog = fog;
            trial.run(told, NONE, NONE);
            if (trial.hitBits(road, car) == 0) {
                best = fog;
            }
        }
        road.fog = before;
        return best;
    }

    public int paces(int what) throws IllegalArgumentException, IllegalStateException {
        needRange(what, 0, 1);
        needTwoCars();
        Road road = told.road;
        int before0 = road.pace[0];
        int before1 = road.pace[1];
        int best = 0;
        int bestSum = 0;
        int fewest = BEYOND_ALL;
        for (int first = 1; first <= MOST_PACE; first++) {
            for (int second = 1; second <= MOST_PACE; second++) {
                road.pace[0] = first;
                road.pace[1] = second;
                trial.run(told, NONE, NONE);
                int hit = trial.hitCount(road, 0) + trial.hitCount(road, 1);
                if (hit < fewest || hit == fewest && first + second > bestSum) {
                    fewest = hit;
                    bestSum = first + second;
                    best = 10 * first + second;
                }
            }
        }
        road.pace[0] = before0;
        road.pace[1] = before1;
        return what == 0 ? best : fewest;
    }

    public int finds(int coat, int what) throws NoSuchElementException, IllegalArgumentException {
        needCoat(coat);
        needRange(what, 0, 1);
        Road road = told.road;
        int finder = NONE;
        int earliest = NONE;
        for (int car = 0; car < road.cars; car++) {
            Trip trip = freshMeeting().tripOf(car);
            int tenth = trip.seenIn(road, road.coatCell[coat], road.coatBright[coat]);
            if (tenth != NONE && (finder == NONE || tenth < earliest)) {
                finder = car;
                earliest = tenth;
            }
        }
        return what == 0 ? finder : earliest;
    }

    // ---- Changes, IMAGES ----

    public int drives(int car, int p, int tilt) throws NoSuchElementException, IllegalArgumentException {
        needCar(car);
        needRange(p, 1, MOST_PACE);
        needRange(tilt, 0, MOST_TILT);
        return change(CHANGE_DRIVES, car, p, tilt);
    }

    public int stands(int coat, int x, int h) throws NoSuchElementException, IllegalArgumentException {
        needCoat(coat);
        needRange(x, 0, told.road.cells - 1);
        needRange(h, 0, MOST_BRIGHT);
        return change(CHANGE_STANDS, coat, x, h);
    }

    public int weather(int fog, int b) throws IllegalArgumentException {
        needRange(fog, 0, MOST_FOG);
        needRange(b, 0, MOST_BLIND);
        return change(CHANGE_WEATHER, 0, fog, b);
    }

    private int change(int kind, int who, int first, int second) {
        if (!changes.make(told.road, kind, who, first, second)) {
            return 0;
        }
        meetingChanged();
        return 1;
    }

    public int undo() {
        if (!changes.takeBack(told.road)) {
            return NONE;
        }
        meetingChanged();
        return changes.many;
    }

    public int image() {
        return changes.keepImage(told.road) ? changes.images : NONE;
    }

    public int restore() {
        if (!changes.bringBack(told.road)) {
            return NONE;
        }
        meetingChanged();
        return changes.images;
    }

    public int status(int what) {
        return what >= 0 && what < refused.length ? refused[what] : NONE;
    }

    public int count(int what) {
        switch (what) {
            case 0: return changes.images;
            case 1: return tape.fed;
            case 2: return changes.many;
            default: return NONE;
        }
    }

    // ---- Refusals ----

    private void needElement(boolean there) {
        if (!there) {
            refused[REFUSED_ELEMENT]++;
            throw new NoSuchElementException("no such CAR or COAT");
        }
    }

    private void needCar(int car) {
        needElement(car >= 0 && car < told.road.cars);
    }

    private void needCoat(int coat) {
        needElement(coat >= 0 && coat < told.road.coats);
    }

    private void needArgument(boolean good) {
        if (!good) {
            refused[REFUSED_ARGUMENT]++;
            throw new IllegalArgumentException("a number that is none such");
        }
    }

    private void needRange(int number, int least, int most) {
        needArgument(number >= least && number <= most);
    }

    private void needTwoCars() {
        if (told.road.cars != MOST_CARS) {
            refused[REFUSED_STATE]++;
            throw new IllegalStateException("there are not two CARS");
        }
    }

    /** The TAPE, and the text on it that is gone through token by token, up to its first FAULT. */
    private static final class Tape {
        private static final int HUGE = 100000;

        private final int[] bytes = new int[TAPE_BYTES];
        private int fed = 0;
        private int length = 0;
        private int after = 0;
        private int begin = 0;
        private int token = TOKEN_END;
        private int number = 0;
        private int kind = 0;
        private int place = NONE;

        private void put(int four) {
            for (int shift = 24; shift >= 0 && fed < TAPE_BYTES; shift -= 8) {
                bytes[fed] = (four >>> shift) & 255;
                fed++;
            }
        }

        /** The TAPE is empty then, but its bytes stay till more is fed: behind the text. */
        private void beginText(int newLength) {
            length = Math.min(newLength, TAPE_BYTES);
            fed = 0;
            after = 0;
            kind = 0;
            place = NONE;
            advance();
        }

        private int answerOfFault() {
            return kind - 10;
        }

        /** The FAULT stands at the token that is looked at. */
        private boolean fail(int newKind) {
            if (kind == 0) {
                kind = newKind;
                place = begin;
            }
            return false;
        }

        /** Looks at the next token. */
        private void advance() {
            begin = after;
            while (begin < length && bytes[begin] == ' ') {
                begin++;
            }
            after = begin;
            number = 0;
            token = begin < length ? tokenOf(bytes[begin]) : TOKEN_END;
            if (token == TOKEN_SIGN) {
                after++;
                return;
            }
            while (after < length && tokenOf(bytes[after]) == token) {
                // Beyond HUGE no limit of any number is met: more digits need no room.
                if (token == TOKEN_NUMBER && number < HUGE) {
                    number = number * 10 + bytes[after] - '0';
                }
                after++;
            }
        }

        private static int tokenOf(int sign) {
            if (sign >= '0' && sign <= '9') {
                return TOKEN_NUMBER;
            }
            return sign >= 'a' && sign <= 'z' ? TOKEN_WORD : TOKEN_SIGN;
        }

        private boolean isWord(String word) {
            int letters = word.length();
            if (token != TOKEN_WORD || after - begin != letters) {
                return false;
            }
            for (int i = 0; i < letters; i++) {
                if (bytes[begin + i] != word.charAt(i)) {
                    return false;
                }
            }
            return true;
        }

        private boolean isSign(char sign) {
            return token == TOKEN_SIGN && bytes[begin] == sign;
        }

        private boolean takeSign(char sign) {
            if (!isSign(sign)) {
                return fail(FAULT_PLACE);
            }
            advance();
            return true;
        }

        /** Whether a number of these limits stands here; it is not gone past. */
        private boolean standsNumber(int least, int most) {
            if (token != TOKEN_NUMBER) {
                return fail(FAULT_PLACE);
            }
            return number >= least && number <= most || fail(FAULT_NUMBER);
        }

        /** The number that stands here, gone past; NONE with a FAULT. */
        private int takeNumber(int least, int most) {
            if (!standsNumber(least, most)) {
                return NONE;
            }
            int taken = number;
            advance();
            return taken;
        }
    }

    /** The ROAD with all that its CLAUSES tell. */
    private static final class Road {
        private int cells = 40;
        private final int[] bendCell = new int[MOST_BENDS];
        private int bends = 0;
        private int bendClauses = 0;
        private final int[] wet = new int[MOST_CELLS];
        private int wetClauses = 0;
        private final int[] coatCell = new int[MOST_COATS];
        private final int[] coatBright = new int[MOST_COATS];
        private int coats = 0;
        private int fog = 0;
        private int blind = 4;
        private int reachFull = 20;
        private int reachDipped = 6;
        private final int[] age = new int[MOST_CARS];
        private final int[] pace = new int[MOST_CARS];
        private final int[] tilt = new int[MOST_CARS];
        private int cars = 0;

        private void empty() {
            cells = 40;
            bends = 0;
            bendClauses = 0;
            for (int i = 0; i < MOST_CELLS; i++) {
                wet[i] = 0;
            }
            wetClauses = 0;
            coats = 0;
            fog = 0;
            blind = 4;
            reachFull = 20;
            reachDipped = 6;
            cars = 0;
        }

        private boolean readFrom(Tape tape) {
            empty();
            for (int clauses = 0; clauses <= MOST_CLAUSES; clauses++) {
                if (tape.token == TOKEN_END) {
                    return true;
                }
                int clause = clauseOf(tape);
                if (clause == NONE) {
                    return tape.fail(FAULT_PLACE);
                }
                if (clauses == MOST_CLAUSES || !hasRoomFor(clause)) {
                    return tape.fail(FAULT_MANY);
                }
                if (clause == CLAUSE_LENGTH && clauses > 0) {
                    return tape.fail(FAULT_LENGTH);
                }
                tape.advance();
                if (!readClause(clause, tape) || !tape.takeSign(';')) {
                    return false;
                }
            }
            return false;
        }

        private static int clauseOf(Tape tape) {
            if (tape.isWord("length")) {
                return CLAUSE_LENGTH;
            }
            if (tape.isWord("bend")) {
                return CLAUSE_BEND;
            }
            if (tape.isWord("wet")) {
                return CLAUSE_WET;
            }
            if (tape.isWord("coat")) {
                return CLAUSE_COAT;
            }
            if (tape.isWord("fog")) {
                return CLAUSE_FOG;
            }
            if (tape.isWord("blind")) {
                return CLAUSE_BLIND;
            }
            if (tape.isWord("reach")) {
                return CLAUSE_REACH;
            }
            return tape.isWord("car") ? CLAUSE_CAR : NONE;
        }

        private boolean hasRoomFor(int clause) {
            switch (clause) {
                case CLAUSE_BEND: return bendClauses < MOST_BENDS;
                case CLAUSE_WET: return wetClauses < MOST_WETS;
                case CLAUSE_COAT: return coats < MOST_COATS;
                case CLAUSE_CAR: return cars < MOST_CARS;
                default: return true;
            }
        }

        private boolean readClause(int clause, Tape tape) {
            switch (clause) {
                case CLAUSE_LENGTH:
                    cells = tape.takeNumber(10, MOST_CELLS);
                    return cells != NONE;
                case CLAUSE_BEND: return readBend(tape);
                case CLAUSE_WET: return readWet(tape);
                case CLAUSE_COAT: return readCoat(tape);
                case CLAUSE_FOG:
                    fog = tape.takeNumber(0, MOST_FOG);
                    return fog != NONE;
                case CLAUSE_BLIND:
                    blind = tape.takeNumber(0, MOST_BLIND);
                    return blind != NONE;
                case CLAUSE_REACH: return readReach(tape);
                default: return readCar(tape);
            }
        }

        private boolean readBend(Tape tape) {
            int cell = tape.takeNumber(0, cells - 1);
            if (cell == NONE) {
                return false;
            }
            bendClauses++;
            for (int i = 0; i < bends; i++) {
                if (bendCell[i] == cell) {
                    return true;
                }
            }
            if (bends < MOST_BENDS) {
                bendCell[bends] = cell;
                bends++;
            }
            return true;
        }

        private boolean readWet(Tape tape) {
            int first = tape.takeNumber(0, cells - 1);
            if (first == NONE) {
                return false;
            }
            int last = tape.takeNumber(first, cells - 1);
            if (last == NONE) {
                return false;
            }
            for (int cell = first; cell <= last && cell < MOST_CELLS; cell++) {
                wet[cell] = 1;
            }
            wetClauses++;
            return true;
        }

        private boolean readCoat(Tape tape) {
            int cell = tape.takeNumber(0, cells - 1);
            if (cell == NONE) {
                return false;
            }
            int bright = tape.takeNumber(0, MOST_BRIGHT);
            if (bright == NONE || coats >= MOST_COATS) {
                return false;
            }
            coatCell[coats] = cell;
            coatBright[coats] = bright;
            coats++;
            return true;
        }

        private boolean readReach(Tape tape) {
            reachFull = tape.takeNumber(1, 40);
            if (reachFull == NONE) {
                return false;
            }
            reachDipped = tape.takeNumber(1, 20);
            return reachDipped != NONE;
        }

        private boolean readCar(Tape tape) {
            int years = tape.takeNumber(LEAST_AGE, MOST_AGE);
            if (years == NONE) {
                return false;
            }
            int cellsInTenth = tape.takeNumber(1, MOST_PACE);
            if (cellsInTenth == NONE) {
                return false;
            }
            int lean = tape.takeNumber(0, MOST_TILT);
            if (lean == NONE || cars >= MOST_CARS) {
                return false;
            }
            age[cars] = years;
            pace[cars] = cellsInTenth;
            tilt[cars] = lean;
            cars++;
            return true;
        }

        private int startOf(int car) {
            return car == 0 ? 0 : cells - 1;
        }

        private boolean has(int cell) {
            return cell >= 0 && cell < cells;
        }

        private int wetAt(int cell) {
            return has(cell) && cell < MOST_CELLS ? wet[cell] : 0;
        }

        private int wetCells() {
            int many = 0;
            for (int cell = 0; cell < MOST_CELLS; cell++) {
                many += wet[cell];
            }
            return many;
        }

        /** Whether a bend is strictly between two CELLS. */
        private boolean hides(int one, int other) {
            int low = Math.min(one, other);
            int high = Math.max(one, other);
            for (int i = 0; i < bends; i++) {
                if (bendCell[i] > low && bendCell[i] < high) {
                    return true;
                }
            }
            return false;
        }

        private int reachBy(int beams) {
            return beams == 1 ? reachFull : reachDipped;
        }

        private int blindFor(int years) {
            return blind + years / 20;
        }

        private int cellOfDraw(int drawn) {
            return cells > 0 ? drawn % cells : 0;
        }
    }

    /** A LAW or a RULE, as numbers that a stack goes through. */
    private static final class Formula {
        private static final int ADD = 0;
        private static final int SUBTRACT = 1;
        private static final int TIMES = 2;
        private static final int DIVIDE = 3;
        private static final int LEAST = 4;
        private static final int MOST = 5;
        private static final int VARIABLE = 100;
        private static final int NUMBER = 1000;
        // 7 levels keep no more than three numbers waiting each.
        private static final int STACK = 40;

        private final int[] steps = new int[TEXT_BYTES];
        private int size = 0;
        private final int[] stack = new int[STACK];

        private void add(int step) {
            if (size < steps.length) {
                steps[size] = step;
                size++;
            }
        }

        /** (reach - fog) / (blind + 1) */
        private void becomeUsualLaw() {
            size = 0;
            add(VARIABLE + V_REACH);
            add(VARIABLE + V_FOG);
            add(SUBTRACT);
            add(VARIABLE + V_BLIND);
            add(NUMBER + 1);
            add(ADD);
            add(DIVIDE);
        }

        /** far - 12 */
        private void becomeUsualRule() {
            size = 0;
            add(VARIABLE + V_FAR);
            add(NUMBER + 12);
            add(SUBTRACT);
        }

        private boolean readFrom(Tape tape) {
            size = 0;
            if (!readSum(tape, 0)) {
                return false;
            }
            return tape.token == TOKEN_END || tape.fail(FAULT_PLACE);
        }

        private boolean readSum(Tape tape, int open) {
            if (!readProduct(tape, open)) {
                return false;
            }
            // Each turn goes past a sign, so the text's length bounds them.
            for (int i = 0; i < TEXT_BYTES; i++) {
                boolean plus = tape.isSign('+');
                if (!plus && !tape.isSign('-')) {
                    return true;
                }
                tape.advance();
                if (!readProduct(tape, open)) {
                    return false;
                }
                add(plus ? ADD : SUBTRACT);
            }
            return true;
        }

        private boolean readProduct(Tape tape, int open) {
            if (!readUnit(tape, open)) {
                return false;
            }
            for (int i = 0; i < TEXT_BYTES; i++) {
                boolean times = tape.isSign('*');
                if (!times && !tape.isSign('/')) {
                    return true;
                }
                tape.advance();
                if (!readUnit(tape, open)) {
                    return false;
                }
                add(times ? TIMES : DIVIDE);
            }
            return true;
        }

        private boolean readUnit(Tape tape, int open) {
            if (tape.token == TOKEN_NUMBER) {
                int number = tape.takeNumber(0, 999);
                add(NUMBER + number);
                return number != NONE;
            }
            int variable = variableOf(tape);
            if (variable != NONE) {
                tape.advance();
                add(VARIABLE + variable);
                return true;
            }
            boolean least = tape.isWord("least");
            boolean most = tape.isWord("most");
            boolean bracket = tape.isSign('(');
            if (!least && !most && !bracket) {
                return tape.fail(FAULT_PLACE);
            }
            if (open >= MOST_OPEN) {
                return tape.fail(FAULT_MANY);
            }
            tape.advance();
            if (bracket) {
                return readSum(tape, open + 1) && tape.takeSign(')');
            }
            return readPair(tape, open + 1, least ? LEAST : MOST);
        }

        private boolean readPair(Tape tape, int open, int step) {
            if (!tape.takeSign('[') || !readSum(tape, open)) {
                return false;
            }
            if (!tape.takeSign(',') || !readSum(tape, open)) {
                return false;
            }
            add(step);
            return tape.takeSign(']');
        }

        private static int variableOf(Tape tape) {
            if (tape.token != TOKEN_WORD) {
                return NONE;
            }
            if (tape.isWord("reach")) {
                return V_REACH;
            }
            if (tape.isWord("fog")) {
                return V_FOG;
            }
            if (tape.isWord("blind")) {
                return V_BLIND;
            }
            if (tape.isWord("age")) {
                return V_AGE;
            }
            if (tape.isWord("wet")) {
                return V_WET;
            }
            if (tape.isWord("tilt")) {
                return V_TILT;
            }
            return variableOfMeeting(tape);
        }

        private static int variableOfMeeting(Tape tape) {
            if (tape.isWord("pace")) {
                return V_PACE;
            }
            if (tape.isWord("tenth")) {
                return V_TENTH;
            }
            if (tape.isWord("far")) {
                return V_FAR;
            }
            if (tape.isWord("met")) {
                return V_MET;
            }
            if (tape.isWord("other")) {
                return V_OTHER;
            }
            return tape.isWord("mine") ? V_MINE : NONE;
        }

        private int valueBy(int[] values) {
            int top = 0;
            for (int i = 0; i < size; i++) {
                int step = steps[i];
                if (step < VARIABLE) {
                    if (top >= 2) {
                        top--;
                        stack[top - 1] = joined(step, stack[top - 1], stack[top]);
                    }
                } else if (top < STACK) {
                    stack[top] = step >= NUMBER ? step - NUMBER : variableBy(values, step - VARIABLE);
                    top++;
                }
            }
            return top > 0 ? stack[0] : 0;
        }

        private static int variableBy(int[] values, int variable) {
            return variable >= 0 && variable < values.length ? values[variable] : 0;
        }

        private static int joined(int step, int one, int other) {
            switch (step) {
                case ADD: return one + other;
                case SUBTRACT: return one - other;
                case TIMES: return one * other;
                case DIVIDE: return other == 0 ? 0 : one / other;
                case LEAST: return one < other ? one : other;
                default: return one > other ? one : other;
            }
        }
    }

    /** In which TENTHS CAR 1 was seen with full beams, in which without. */
    private static final class Book {
        private final int[] tenth = new int[MOST_LINES];
        private final int[] full = new int[MOST_LINES];
        private int lines = 0;

        private boolean readFrom(Tape tape) {
            lines = 0;
            for (int i = 0; i <= MOST_LINES; i++) {
                if (tape.token == TOKEN_END) {
                    return true;
                }
                if (!readLine(tape)) {
                    return false;
                }
            }
            return false;
        }

        private boolean readLine(Tape tape) {
            if (!tape.standsNumber(0, 99)) {
                return false;
            }
            int when = tape.number;
            if (tells(when)) {
                return tape.fail(FAULT_NUMBER);
            }
            if (lines >= MOST_LINES) {
                return tape.fail(FAULT_MANY);
            }
            tape.advance();
            int beams = tape.takeNumber(0, 1);
            if (beams == NONE || !tape.takeSign(';')) {
                return false;
            }
            tenth[lines] = when;
            full[lines] = beams;
            lines++;
            return true;
        }

        private boolean tells(int when) {
            for (int i = 0; i < lines; i++) {
                if (tenth[i] == when) {
                    return true;
                }
            }
            return false;
        }
    }

    /** The ROAD, the LAW and the RULES, by which MEETINGS go. */
    private static final class Told {
        private Road road = new Road();
        private Formula law = new Formula();
        private Formula rule0 = new Formula();
        private Formula rule1 = new Formula();
        private final int[] values = new int[VARIABLES];

        private Told() {
            forgetFormulas();
        }

        private void forgetFormulas() {
            law.becomeUsualLaw();
            rule0.becomeUsualRule();
            rule1.becomeUsualRule();
        }

        private Formula swapRule(int car, Formula rule) {
            Formula before = car == 0 ? rule0 : rule1;
            if (car == 0) {
                rule0 = rule;
            } else {
                rule1 = rule;
            }
            return before;
        }

        private int[] valuesOfNobody() {
            for (int i = 0; i < VARIABLES; i++) {
                values[i] = 0;
            }
            values[V_FOG] = road.fog;
            values[V_FAR] = NOT_IN_VIEW;
            return values;
        }

        private int sightByLaw() {
            return Math.max(0, Math.min(60, law.valueBy(values)));
        }

        private int beamsByRule(int car) {
            return (car == 0 ? rule0 : rule1).valueBy(values) > 0 ? 1 : 0;
        }
    }

    /** What one CAR goes through in a MEETING, a row each by TENTHS. */
    private static final class Trip {
        private final int who;
        private final int direction;
        private boolean there = false;
        private int age = 0;
        private int pace = 0;
        private int tilt = 0;
        private int cellNow = 0;
        private int beamsNow = 1;
        private int blindNow = 0;
        private int tenths = 0;
        private final int[] cell = new int[MOST_TENTHS];
        private final int[] beams = new int[MOST_TENTHS];
        private final int[] blind = new int[MOST_TENTHS];
        private final int[] sight = new int[MOST_TENTHS];
        private final int[] stop = new int[MOST_TENTHS];
        private final int[] glare = new int[MOST_TENTHS];

        private Trip(int who) {
            this.who = who;
            this.direction = who == 0 ? 1 : -1;
        }

        private void begin(Road road) {
            there = who < road.cars;
            age = road.age[who];
            pace = road.pace[who];
            tilt = road.tilt[who];
            cellNow = road.startOf(who);
            beamsNow = 1;
            blindNow = 0;
            tenths = 0;
        }

        private boolean isOn(Road road) {
            return there && road.has(cellNow);
        }

        private void becomeBlind(boolean dazzled, int dazzledFor) {
            if (dazzled) {
                blindNow = Math.max(blindNow, dazzledFor);
            } else if (blindNow > 0) {
                blindNow--;
            }
        }

        private void keep(Road road, int tenth, int sightNow, boolean dazzles) {
            if (tenth < 0 || tenth >= MOST_TENTHS) {
                return;
            }
            cell[tenth] = cellNow;
            beams[tenth] = beamsNow;
            blind[tenth] = blindNow;
            sight[tenth] = sightNow;
            stop[tenth] = (road.wetAt(cellNow) == 1 ? 4 : 2) * pace;
            glare[tenth] = dazzles ? 1 : 0;
            tenths = tenth + 1;
        }

        private int unsafe(int tenth) {
            return sight[tenth] < stop[tenth] ? 1 : 0;
        }

        private int unsafeTenths() {
            int many = 0;
            for (int t = 0; t < tenths; t++) {
                many += unsafe(t);
            }
            return many;
        }

        private int glareTenths() {
            int many = 0;
            for (int t = 0; t < tenths; t++) {
                many += glare[t];
            }
            return many;
        }

        private int blindTenths() {
            int many = 0;
            for (int t = 0; t < tenths; t++) {
                many += blind[t] > 0 ? 1 : 0;
            }
            return many;
        }

        private int fullTenths() {
            int many = 0;
            for (int t = 0; t < tenths; t++) {
                many += beams[t];
            }
            return many;
        }

        private int beamChanges() {
            int many = 0;
            int before = 1;
            for (int t = 0; t < tenths; t++) {
                many += beams[t] != before ? 1 : 0;
                before = beams[t];
            }
            return many;
        }

        private int leastSight() {
            int least = NONE;
            for (int t = 0; t < tenths; t++) {
                if (least == NONE || sight[t] < least) {
                    least = sight[t];
                }
            }
            return least;
        }

        /** The first TENTH from one on with such beams; NONE without. */
        private int firstBeams(int wanted, int from) {
            for (int t = Math.max(0, from); t < tenths; t++) {
                if (beams[t] == wanted) {
                    return t;
                }
            }
            return NONE;
        }

        /** How far ahead a CELL is as a TENTH begins; less than 0 behind. */
        private int ahead(int tenth, int x) {
            return (x - cell[tenth]) * direction;
        }

        /** The TENTH in which one in a CELL is SEEN first; NONE: never. */
        private int seenIn(Road road, int x, int bright) {
            for (int t = 0; t < tenths; t++) {
                int away = ahead(t, x);
                if (away >= 0 && sight[t] != 0 && away <= sight[t] + bright && !road.hides(cell[t], x)) {
                    return t;
                }
            }
            return NONE;
        }

        /** The TENTH in which the CAR goes through a CELL or comes to it; NONE: never. */
        private int reachedIn(int x) {
            for (int t = 0; t < tenths; t++) {
                int away = ahead(t, x);
                if (away <= pace && (away > 0 || away == 0 && t == 0)) {
                    return t;
                }
            }
            return NONE;
        }

        private boolean doesHit(Road road, int x, int bright) {
            int reached = reachedIn(x);
            if (reached == NONE) {
                return false;
            }
            int seen = seenIn(road, x, bright);
            return seen == NONE || seen > reached || ahead(seen, x) < stop[reached];
        }
    }

    /** A MEETING gone through TENTH by TENTH. COATS change nothing in it, so they are looked at behind it. */
    private static final class Meeting {
        private final Trip trip0 = new Trip(0);
        private final Trip trip1 = new Trip(1);
        // CELLS between both while in VIEW; 0 while not.
        private final int[] apart = new int[MOST_TENTHS];
        private int tenths = 0;
        private int passedIn = NONE;

        private Trip tripOf(int car) {
            return car == 0 ? trip0 : trip1;
        }

        /** By the RULES told, or, where a distance is not NONE, by far less that distance. */
        private void run(Told told, int distance0, int distance1) {
            Road road = told.road;
            trip0.begin(road);
            trip1.begin(road);
            passedIn = NONE;
            tenths = 0;
            while (tenths < MOST_TENTHS && (trip0.isOn(road) || trip1.isOn(road))) {
                measure(road, tenths);
                int beams0 = beamsOf(told, trip0, distance0);
                int beams1 = beamsOf(told, trip1, distance1);
                trip0.beamsNow = beams0;
                trip1.beamsNow = beams1;
                boolean dazzles0 = dazzles(trip0);
                boolean dazzles1 = dazzles(trip1);
                trip0.becomeBlind(dazzles1, road.blindFor(trip0.age));
                trip1.becomeBlind(dazzles0, road.blindFor(trip1.age));
                keep(told, trip0, dazzles0);
                keep(told, trip1, dazzles1);
                trip0.cellNow += trip0.pace;
                trip1.cellNow -= trip1.pace;
                tenths++;
            }
        }

        private void measure(Road road, int tenth) {
            int between = trip1.cellNow - trip0.cellNow;
            if (road.cars == MOST_CARS && passedIn == NONE && between <= 0) {
                passedIn = tenth;
            }
            boolean both = trip0.isOn(road) && trip1.isOn(road);
            boolean seen = both && passedIn == NONE && !road.hides(trip0.cellNow, trip1.cellNow);
            if (tenth >= 0 && tenth < MOST_TENTHS) {
                apart[tenth] = seen ? between : 0;
            }
        }

        private int beamsOf(Told told, Trip own, int distance) {
            if (!own.isOn(told.road)) {
                return own.beamsNow;
            }
            if (distance != NONE) {
                return beamsBy(distance, tenths);
            }
            tellValues(told, own);
            return told.beamsByRule(own.who);
        }

        private boolean dazzles(Trip own) {
            int cells = apartIn(tenths);
            return cells > 0 && cells <= DAZZLING_CELLS && (own.beamsNow == 1 || own.tilt >= DAZZLING_TILT);
        }

        private void keep(Told told, Trip own, boolean dazzles) {
            if (own.isOn(told.road)) {
                tellValues(told, own);
                own.keep(told.road, tenths, told.sightByLaw(), dazzles);
            }
        }

        private void tellValues(Told told, Trip own) {
            Road road = told.road;
            int[] values = told.values;
            values[V_REACH] = road.reachBy(own.beamsNow);
            values[V_FOG] = road.fog;
            values[V_BLIND] = own.blindNow;
            values[V_AGE] = own.age;
            values[V_WET] = road.wetAt(own.cellNow);
            values[V_TILT] = own.tilt;
            values[V_PACE] = own.pace;
            values[V_TENTH] = tenths;
            values[V_FAR] = far(tenths);
            values[V_MET] = passedIn != NONE ? 1 : 0;
            values[V_OTHER] = inView(tenths) ? tripOf(1 - own.who).beamsNow : 0;
            values[V_MINE] = own.beamsNow;
        }

        private int apartIn(int tenth) {
            return tenth >= 0 && tenth < MOST_TENTHS ? apart[tenth] : 0;
        }

        private boolean inView(int tenth) {
            return apartIn(tenth) > 0;
        }

        private int far(int tenth) {
            int cells = apartIn(tenth);
            return cells > 0 ? cells : NOT_IN_VIEW;
        }

        /** Beams by far less a distance, of whoever is on the ROAD. */
        private int beamsBy(int distance, int tenth) {
            return far(tenth) - distance > 0 ? 1 : 0;
        }

        private boolean everApartBy(int cells) {
            for (int t = 0; t < tenths; t++) {
                if (apart[t] == cells) {
                    return true;
                }
            }
            return false;
        }

        private int hitBy(Road road, int car, int x, int bright) {
            return car < road.cars && tripOf(car).doesHit(road, x, bright) ? 1 : 0;
        }

        private int hitByCars(Road road, int x, int bright) {
            return hitBy(road, 0, x, bright) + hitBy(road, 1, x, bright);
        }

        private int hitBits(Road road, int car) {
            Trip trip = tripOf(car);
            int bits = 0;
            for (int i = 0; i < road.coats; i++) {
                if (trip.doesHit(road, road.coatCell[i], road.coatBright[i])) {
                    bits |= 1 << i;
                }
            }
            return bits;
        }

        private int hitCount(Road road, int car) {
            return Integer.bitCount(hitBits(road, car));
        }

        private int costOf(Road road, int car) {
            return HIT_COST * Integer.bitCount(hitBits(road, car)) + tripOf(car).unsafeTenths();
        }
    }

    /** Costs of two who choose by numbers from 0 on, a place for each pair. */
    private static final class Game {
        private static final int SIDE = 21;

        private final int[] costs0 = new int[SIDE * SIDE];
        private final int[] costs1 = new int[SIDE * SIDE];

        private static boolean isPair(int i, int j) {
            return i >= 0 && i < SIDE && j >= 0 && j < SIDE;
        }

        private void put(int i, int j, int cost0, int cost1) {
            if (isPair(i, j)) {
                costs0[i * SIDE + j] = cost0;
                costs1[i * SIDE + j] = cost1;
            }
        }

        private void copy(int i, int j, int fromI, int fromJ) {
            if (isPair(fromI, fromJ)) {
                int from = fromI * SIDE + fromJ;
                put(i, j, costs0[from], costs1[from]);
            }
        }

        private boolean isRest(int i, int j, int size) {
            int here = i * SIDE + j;
            for (int k = 0; k < size && k < SIDE; k++) {
                if (costs0[k * SIDE + j] < costs0[here] || costs1[i * SIDE + k] < costs1[here]) {
                    return false;
                }
            }
            return true;
        }

        private int restsOf(int size) {
            int many = 0;
            for (int i = 0; i < size && i < SIDE; i++) {
                for (int j = 0; j < size && j < SIDE; j++) {
                    many += isRest(i, j, size) ? 1 : 0;
                }
            }
            return many;
        }

        /** The place of the first RESTS; NONE: there are none. */
        private int firstRest(int size) {
            for (int i = 0; i < size && i < SIDE; i++) {
                for (int j = 0; j < size && j < SIDE; j++) {
                    if (isRest(i, j, size)) {
                        return i * SIDE + j;
                    }
                }
            }
            return NONE;
        }

        private int kindest(int size) {
            int best = 0;
            for (int i = 0; i < size && i < SIDE; i++) {
                for (int j = 0; j < size && j < SIDE; j++) {
                    if (together(i * SIDE + j) < together(best)) {
                        best = i * SIDE + j;
                    }
                }
            }
            return best;
        }

        private int together(int place) {
            return place >= 0 && place < costs0.length ? costs0[place] + costs1[place] : 0;
        }
    }

    /** Changes that can be undone, and IMAGES. */
    private static final class Changes {
        private static final int ROAD_NUMBERS = 2 * MOST_CARS + 2 * MOST_COATS + 2;

        private final int[] kind = new int[MOST_CHANGES];
        private final int[] who = new int[MOST_CHANGES];
        private final int[] firstBefore = new int[MOST_CHANGES];
        private final int[] secondBefore = new int[MOST_CHANGES];
        private int many = 0;
        private final int[][] kept = new int[MOST_IMAGES][ROAD_NUMBERS + 4 * MOST_CHANGES];
        private final int[] keptMany = new int[MOST_IMAGES];
        private int images = 0;

        private void forgetAll() {
            many = 0;
            images = 0;
        }

        private boolean make(Road road, int newKind, int newWho, int first, int second) {
            if (many >= MOST_CHANGES) {
                return false;
            }
            kind[many] = newKind;
            who[many] = newWho;
            firstBefore[many] = firstOf(road, newKind, newWho);
            secondBefore[many] = secondOf(road, newKind, newWho);
            many++;
            put(road, newKind, newWho, first, second);
            return true;
        }

        private boolean takeBack(Road road) {
            if (many <= 0) {
                return false;
            }
            many--;
            put(road, kind[many], who[many], firstBefore[many], secondBefore[many]);
            return true;
        }

        private static int firstOf(Road road, int kind, int who) {
            switch (kind) {
                case CHANGE_DRIVES: return road.pace[who];
                case CHANGE_STANDS: return road.coatCell[who];
                default: return road.fog;
            }
        }

        private static int secondOf(Road road, int kind, int who) {
            switch (kind) {
                case CHANGE_DRIVES: return road.tilt[who];
                case CHANGE_STANDS: return road.coatBright[who];
                default: return road.blind;
            }
        }

        private static void put(Road road, int kind, int who, int first, int second) {
            switch (kind) {
                case CHANGE_DRIVES:
                    road.pace[who] = first;
                    road.tilt[who] = second;
                    break;
                case CHANGE_STANDS:
                    road.coatCell[who] = first;
                    road.coatBright[who] = second;
                    break;
                default:
                    road.fog = first;
                    road.blind = second;
                    break;
            }
        }

        private boolean keepImage(Road road) {
            if (images >= MOST_IMAGES) {
                return false;
            }
            int[] row = kept[images];
            int at = 0;
            at = copyTo(row, at, road.pace);
            at = copyTo(row, at, road.tilt);
            at = copyTo(row, at, road.coatCell);
            at = copyTo(row, at, road.coatBright);
            at = copyTo(row, at, kind);
            at = copyTo(row, at, who);
            at = copyTo(row, at, firstBefore);
            at = copyTo(row, at, secondBefore);
            row[at] = road.fog;
            row[at + 1] = road.blind;
            keptMany[images] = many;
            images++;
            return true;
        }

        private boolean bringBack(Road road) {
            if (images <= 0) {
                return false;
            }
            images--;
            int[] row = kept[images];
            int at = 0;
            at = copyFrom(row, at, road.pace);
            at = copyFrom(row, at, road.tilt);
            at = copyFrom(row, at, road.coatCell);
            at = copyFrom(row, at, road.coatBright);
            at = copyFrom(row, at, kind);
            at = copyFrom(row, at, who);
            at = copyFrom(row, at, firstBefore);
            at = copyFrom(row, at, secondBefore);
            road.fog = row[at];
            road.blind = row[at + 1];
            many = keptMany[images];
            return true;
        }

        private static int copyTo(int[] row, int at, int[] part) {
            System.arraycopy(part, 0, row, at, part.length);
            return at + part.length;
        }

        private static int copyFrom(int[] row, int at, int[] part) {
            System.arraycopy(row, at, part, 0, part.length);
            return at + part.length;
        }
    }
}
