/** The bounds of part 3 of the document, games, odds, what was seen, NIGHTS, each on both of its sides, by hand. */
public final class GameEdgeTest {
    /** Both by 1: 9, 7, 5, 3, 1 CELLS apart, then PASSED for five TENTHS. */
    private static final String SHORT = "length 10;reach 8 2;blind 0;car 20 1 0;car 20 1 1;";
    private static final long ALL = (1L << 41) - 1;

    public static void main(String[] args) {
        dippedAtDistance();
        costOfHitsAndUnsafe();
        duelByNone();
        duelCountsHitsOfBoth();
        kindOfUnlikeOnes();
        firstOfAlike();
        duelToTwenty();
        restsOfAllAlike();
        answerByTheOther();
        answerToItsEnd();
        habitAtBothEnds();
        habitBlindAtAnyTime();
        safePaces();
        loaded();
        old();
        between();
        bulbs();
        distanceForty();
        bookAndTheRoad();
        lookForTheLast();
        lookAtTheWorst();
        rights();
        draws();
        nightsOfManyCoats();
        darkestCells();
        needs();
        clearByRules();
        pacesByRules();
        Kit.end("GameEdgeTest");
    }

    private static DipLights by(String law, String road) {
        DipLights x = Kit.onRoad(road);
        Kit.due("4 '" + law + "'", Kit.law(x, law), 1);
        return x;
    }

    /** UNSAFE in each TENTH with full beams, by far - d: dipped just where they are no more than d apart. */
    private static void dippedAtDistance() {
        DipLights x = by("9 - 9 * mine", SHORT);
        int[] wantByD = {10, 9, 9, 8, 8, 7, 7, 6, 6, 5, 5};
        for (int d = 0; d < wantByD.length; d++) {
            Kit.due("18 by " + d, x.cost(0, d, 0), wantByD[d]);
            Kit.due("18 CAR 1 by " + d, x.cost(1, d, 0), wantByD[d]);
        }
        Kit.due("18 by 60", x.cost(0, 60, 60), 5);
        // 59 apart at most: 60 TENTHS, half of them PASSED.
        DipLights y = by("9 - 9 * mine", "length 60;car 20 1 0;car 20 1 0;");
        Kit.due("18 by 58: full at 59", y.cost(0, 58, 60), 31);
        Kit.due("18 by 59: dipped at 59", y.cost(0, 59, 60), 30);
        Kit.due("18 by 60", y.cost(0, 60, 0), 30);
        Kit.due("18 by 0", y.cost(0, 0, 60), 60);
    }

    private static void costOfHitsAndUnsafe() {
        DipLights none = by("60", SHORT);
        Kit.due("18 neither", none.cost(0, 0, 0), 0);
        DipLights hits = by("60", SHORT + "coat 0 9;coat 1 9;coat 9 9;coat 8 9;coat 8 9;");
        Kit.due("18 two HITS of CAR 0", hits.cost(0, 0, 0), 20);
        Kit.due("18 three HITS of CAR 1", hits.cost(1, 0, 0), 30);
        DipLights both = by("0", SHORT + "coat 5 9;".repeat(10));
        Kit.due("18 ten HITS and ten TENTHS", both.cost(0, 7, 7), 110);
        Kit.due("18 ten HITS and ten TENTHS", both.cost(1, 7, 7), 110);
    }

    private static void duelByNone() {
        DipLights x = by("0", SHORT);
        Kit.due("19 by 0: cost of both", x.duel(0, 3), 20);
        Kit.due("19 by 0: one RESTS", x.duel(0, 0), 1);
        Kit.due("19 by 0: the first", x.duel(0, 1), 0);
        Kit.due("19 by 0: KIND", x.duel(0, 2), 0);
        Kit.due("43 a change", x.weather(1, 1), 1);
        Kit.due("19 by 0 again", x.duel(0, 3), 20);
        Kit.law(x, "60");
        Kit.due("19 by 0, another LAW", x.duel(0, 3), 0);
    }

    private static void duelCountsHitsOfBoth() {
        DipLights x = by("60", SHORT + "coat 9 9;coat 8 9;");
        Kit.due("19 HITS of CAR 1", x.duel(2, 3), 20);
        DipLights y = by("60", SHORT + "coat 0 9;coat 1 9;coat 9 0;");
        Kit.due("19 HITS of both", y.duel(2, 3), 30);
        Kit.due("19 all alike", y.duel(2, 0), 9);
    }

    /** By TILT the one is UNSAFE with full beams, the other one with dipped ones. */
    private static void kindOfUnlikeOnes() {
        String law = "9*(tilt*(1-mine)+(1-tilt)*mine)";
        DipLights x = by(law, SHORT);
        Kit.due("19 one RESTS", x.duel(1, 0), 1);
        Kit.due("19 CAR 0 by 0, CAR 1 by 1", x.duel(1, 1), 1);
        Kit.due("19 KIND", x.duel(1, 2), 1);
        Kit.due("19 its cost", x.duel(1, 3), 9);
        DipLights y = by(law, "length 10;reach 8 2;blind 0;car 20 1 1;car 20 1 0;");
        Kit.due("19 one RESTS", y.duel(1, 0), 1);
        Kit.due("19 CAR 0 by 1, CAR 1 by 0", y.duel(1, 1), 100);
        Kit.due("19 KIND", y.duel(1, 2), 100);
        Kit.due("19 its cost", y.duel(1, 3), 9);
        Kit.due("19 by 9", y.duel(9, 1), 900);
        Kit.due("19 by 9 KIND", y.duel(9, 2), 900);
    }

    /** Both are safe while their beams differ: by 0 and 1, or by 1 and 0. */
    private static void firstOfAlike() {
        DipLights x = by("9*(mine-other)*(mine-other)", SHORT);
        Kit.due("19 two RESTS", x.duel(1, 0), 2);
        Kit.due("19 the first", x.duel(1, 1), 1);
        Kit.due("19 KIND: CAR 0's d ahead", x.duel(1, 2), 1);
        Kit.due("19 four TENTHS each", x.duel(1, 3), 8);
    }

    /** 30 apart at first: 20 tells from 19, 60 from 59 nothing. */
    private static void duelToTwenty() {
        DipLights x = by("9 - 9 * mine", "length 31;car 20 1 0;car 20 1 0;");
        Kit.due("19 by 20: one RESTS", x.duel(20, 0), 1);
        Kit.due("19 by 20", x.duel(20, 1), 2020);
        Kit.due("19 by 20: KIND", x.duel(20, 2), 2020);
        // 31 TENTHS, 15 in VIEW at 30, 28, .. 2: dipped in 10 of them.
        Kit.due("19 by 20: its cost", x.duel(20, 3), 42);
        Kit.due("19 by 19: 18 or 19", x.duel(19, 0), 4);
        Kit.due("19 by 19", x.duel(19, 1), 1818);
        Kit.due("19 by 19: its cost", x.duel(19, 3), 44);
        Kit.due("20 to 20", x.answer(0, 20), 20);
        Kit.due("20 to 19", x.answer(1, 19), 18);
    }

    private static void restsOfAllAlike() {
        DipLights x = by("60", SHORT);
        Kit.due("19 all of 21 by 21", x.duel(20, 0), 441);
        Kit.due("19 the first", x.duel(20, 1), 0);
        Kit.due("19 KIND", x.duel(20, 2), 0);
        Kit.due("19 its cost", x.duel(20, 3), 0);
        Kit.due("19 of 1 by 1", x.duel(0, 0), 1);
    }

    /** Safe while his beams are not as the other one's, whose RULE is as it is told. */
    private static void answerByTheOther() {
        DipLights x = by("9*(mine-other)*(mine-other)", SHORT);
        Kit.rule(x, 0, "0");
        Kit.rule(x, 1, "0");
        Kit.due("20 CAR 1, the other one dipped", x.answer(1, 20), 0);
        Kit.due("20 CAR 0, the other one dipped", x.answer(0, 20), 0);
        Kit.rule(x, 0, "1");
        Kit.due("20 CAR 1, the other one full", x.answer(1, 20), 9);
        Kit.due("20 CAR 0, the other one still dipped", x.answer(0, 20), 0);
        Kit.rule(x, 1, "1");
        Kit.due("20 CAR 0, the other one full", x.answer(0, 20), 9);
    }

    private static void answerToItsEnd() {
        DipLights x = by("9 - 9 * mine", SHORT);
        Kit.due("20 to 0", x.answer(0, 0), 0);
        Kit.due("20 to 1", x.answer(0, 1), 1);
        Kit.due("20 to 2: of these the least", x.answer(1, 2), 1);
        Kit.due("20 to 8", x.answer(0, 8), 7);
        Kit.due("20 to 9", x.answer(0, 9), 9);
        Kit.due("20 to 20", x.answer(1, 20), 9);
        Kit.law(x, "60");
        Kit.due("20 all alike: the least", x.answer(1, 20), 0);
        DipLights hits = by("60", SHORT + "coat 1 0;");
        Kit.due("20 all alike with a HIT", hits.answer(0, 20), 0);
    }

    private static void habit(DipLights x, int d, int till, int round, int least, int greatest) {
        Kit.due("21 till, from " + d, x.habit(d, 0), till);
        Kit.due("21 round, from " + d, x.habit(d, 1), round);
        Kit.due("21 the least d, from " + d, x.habit(d, 2), least);
        Kit.due("21 the greatest d, from " + d, x.habit(d, 3), greatest);
    }

    private static void habitAtBothEnds() {
        DipLights up = Kit.onRoad(SHORT);
        Kit.rule(up, 1, "1");
        habit(up, 0, 20, 1, 20, 20);
        habit(up, 1, 19, 1, 20, 20);
        habit(up, 19, 1, 1, 20, 20);
        habit(up, 20, 0, 1, 20, 20);
        DipLights down = Kit.onRoad(SHORT);
        Kit.rule(down, 1, "0");
        habit(down, 20, 20, 1, 0, 0);
        habit(down, 19, 19, 1, 0, 0);
        habit(down, 1, 1, 1, 0, 0);
        habit(down, 0, 0, 1, 0, 0);
        // CAR 1 is full at 1 if CAR 0 was full at 3: by 2 he is blind, by 3 he is not.
        DipLights round = Kit.onRoad(SHORT);
        Kit.rule(round, 1, "other * (2 - far)");
        habit(round, 0, 2, 2, 2, 3);
        habit(round, 2, 0, 2, 2, 3);
        habit(round, 3, 0, 2, 2, 3);
        habit(round, 20, 17, 2, 2, 3);
        // CAR 0's own RULE is nothing to it.
        Kit.rule(round, 0, "1");
        habit(round, 20, 17, 2, 2, 3);
    }

    private static void habitBlindAtAnyTime() {
        // Dazzled in one TENTH, in the first or the last in VIEW, for one TENTH: blind all the same.
        DipLights first = Kit.onRoad(SHORT);
        Kit.rule(first, 1, "1 - tenth");
        habit(first, 18, 2, 1, 20, 20);
        DipLights last = Kit.onRoad(SHORT);
        Kit.rule(last, 1, "2 - far");
        habit(last, 18, 2, 1, 20, 20);
        // Dazzled for 0 TENTHS: not blind.
        DipLights none = Kit.onRoad("length 10;blind 0;car 19 1 0;car 20 1 9;");
        habit(none, 2, 2, 1, 0, 0);
        // CAR 1 being blind is nothing to it.
        DipLights other = Kit.onRoad("length 10;blind 9;car 19 1 9;car 20 1 0;");
        Kit.rule(other, 1, "0");
        habit(other, 2, 2, 1, 0, 0);
    }

    private static void safe(int sight, int want) {
        DipLights x = by(Integer.toString(sight), "wet 0 39;car 20 3 0;car 20 1 0;");
        for (int full = 0; full < 2; full++) {
            Kit.due("22 by SIGHT " + sight, x.safe(0, full), want);
            Kit.due("22 CAR 1 by SIGHT " + sight, x.safe(1, full), want);
        }
    }

    private static void safePaces() {
        safe(0, 0);
        safe(1, 0);
        safe(2, 1);
        safe(3, 1);
        safe(4, 2);
        safe(17, 8);
        safe(18, 9);
        safe(19, 9);
        safe(20, 9);
        safe(60, 9);
        DipLights reach = Kit.onRoad("reach 18 2;car 20 1 0;");
        Kit.due("22 full: 18", reach.safe(0, 1), 9);
        Kit.due("22 dipped: 2", reach.safe(0, 0), 1);
        reach.weather(1, 0);
        Kit.due("22 full: 17", reach.safe(0, 1), 8);
        Kit.due("22 dipped: 1", reach.safe(0, 0), 0);
        Kit.due("22 only by 1", by("3 - pace", "car 20 1 0;").safe(0, 1), 1);
        Kit.due("22 by 9 alone", by("pace / 9 * 18", "car 20 1 0;").safe(0, 1), 9);
        Kit.due("22 by none", by("pace * 2 - 1", "car 20 1 0;").safe(0, 1), 0);
    }

    private static void loaded(int f, int n, int k, long above, long below) {
        DipLights x = new DipLights();
        Kit.due("23 above: " + f + " " + n + " " + k, x.loaded(f, n, k, 0), above);
        Kit.due("23 below: " + f + " " + n + " " + k, x.loaded(f, n, k, 1), below);
    }

    private static void loaded() {
        loaded(0, 0, 0, 0, 1);
        loaded(16, 0, 0, 1, 1);
        loaded(0, 6, 6, 0, 1);
        loaded(0, 6, 0, 0, 1);
        loaded(16, 6, 0, 1, 1);
        loaded(16, 6, 6, 1, 1);
        loaded(8, 0, 0, 1, 2);
        loaded(4, 0, 0, 1, 4);
        loaded(15, 0, 0, 15, 16);
        // 4^6 of that and 15 * 11^6; 15 * 12^6 of that and 5^6, both by 5; 12^6 of that and 15 * 5^6, both by 3.
        loaded(1, 6, 0, 4096, 26577511);
        loaded(15, 6, 6, 8957952, 8961077);
        loaded(1, 6, 6, 995328, 1073453);
        loaded(8, 1, 0, 4, 15);
        loaded(8, 1, 1, 12, 17);
    }

    private static void old() {
        DipLights x = Kit.onRoad("blind 9;");
        int[] want = {17, 17, 17, 17, 17, 17, 17, 17, 17, 20, 40, 60, 80, -1};
        for (int n = 0; n < want.length; n++) {
            Kit.due("25 more than " + n + ", B 9", x.old(n), want[n]);
        }
        Kit.due("25 more than 20", x.old(20), -1);
        DipLights y = Kit.onRoad("blind 0;");
        int[] least = {20, 40, 60, 80, -1};
        for (int n = 0; n < least.length; n++) {
            Kit.due("25 more than " + n + ", B 0", y.old(n), least[n]);
        }
    }

    private static void between() {
        for (int b = 0; b <= 9; b += 3) {
            DipLights x = Kit.onRoad("blind " + b + ";");
            for (int age : new int[] {17, 19, 20, 40, 79, 80, 99}) {
                int just = b + age / 20 + 3 + 2;
                Kit.due("26 2 are left, " + age, x.between(age, just) ? 1 : 0, 1);
                Kit.due("26 1 is left, " + age, x.between(age, just - 1) ? 1 : 0, 0);
                Kit.due("26 none of none, " + age, x.between(age, 0) ? 1 : 0, 0);
                Kit.due("26 of 60, " + age, x.between(age, 60) ? 1 : 0, 1);
            }
        }
    }

    private static void bulbs() {
        DipLights x = new DipLights();
        Kit.due("27 alike", x.gets(7, 7), 21 - 7);
        Kit.due("27 the other one brighter by 1", x.gets(7, 8), 21 - 1 - 7);
        Kit.due("27 the other one darker by 1: 0 at least", x.gets(8, 7), 24 - 7);
        Kit.due("27 the least", x.gets(1, 1), 2);
        Kit.due("27 the greatest", x.gets(40, 40), 80);
        Kit.due("27 1 and 40", x.gets(1, 40), -1538);
        Kit.due("27 40 and 1: cut", x.gets(40, 1), 100);
        Kit.due("27 1 and 2: cut", x.gets(1, 2), 1);
        Kit.due("28 by 1: one RESTS", x.bulbs(1, 0), 1);
        Kit.due("28 by 1: the first", x.bulbs(1, 1), 101);
        Kit.due("28 by 1: together", x.bulbs(1, 2), 4);
        Kit.due("28 by 20: one RESTS", x.bulbs(20, 0), 1);
        Kit.due("28 by 20: the first", x.bulbs(20, 1), 2020);
        Kit.due("28 by 20: together", x.bulbs(20, 2), 80);
        Kit.due("28 by 1 behind 20", x.bulbs(1, 2), 4);
    }

    private static void distances(DipLights x, String lines, long want) {
        Kit.book(x, lines);
        Kit.due("29 by '" + lines + "'", x.distances(), want);
    }

    private static void distanceForty() {
        DipLights forty = Kit.onRoad("length 41;car 20 1 0;car 20 1 0;");
        distances(forty, "", ALL);
        distances(forty, "0 0;", 1L << 40);
        distances(forty, "0 1;", ALL >> 1);
        distances(forty, "0 1;1 0;", 3L << 38);
        // 2 apart in TENTH 19, PASSED in 20.
        distances(forty, "19 1;", 3);
        distances(forty, "19 0;", ALL - 3);
        distances(forty, "20 1;", ALL);
        distances(forty, "20 0;", 0);
        DipLights further = Kit.onRoad("length 42;car 20 1 0;car 20 1 0;");
        distances(further, "0 0;", 0);
        distances(further, "0 1;", ALL);
        // 1 apart in TENTH 20.
        distances(further, "20 1;", 1);
        distances(further, "20 0;", ALL - 1);
        distances(further, "0 1;1 1;2 1;3 1;4 1;5 1;6 1;7 1;8 1;9 1;10 1;20 0;", (1L << 21) - 2);
    }

    private static void bookAndTheRoad() {
        // CAR 1 by 3 is on the ROAD in TENTHS 0 to 3, CAR 0 in 0 to 9.
        DipLights x = Kit.onRoad("length 10;car 20 1 0;car 20 3 0;");
        distances(x, "3 1;", ALL);
        distances(x, "4 1;", 0);
        distances(x, "4 0;", 0);
        distances(x, "99 0;", 0);
        // CAR 0 is gone, CAR 1 is not.
        DipLights y = Kit.onRoad("length 10;car 20 3 0;car 20 1 0;");
        distances(y, "9 1;", ALL);
        distances(y, "10 1;", 0);
        Kit.book(y, "9 1;");
        Kit.due("31 CAR 1's last TENTH", y.right(), 1);
        Kit.book(y, "10 1;");
        Kit.due("31 CAR 1 is gone", y.right(), 0);
        // Not in VIEW far is 99: full.
        DipLights hidden = Kit.onRoad("length 10;bend 4;car 20 1 0;car 20 1 0;");
        distances(hidden, "0 1;", ALL);
        distances(hidden, "0 0;", 0);
    }

    private static String lines(int from, int many) {
        StringBuilder text = new StringBuilder();
        for (int t = from; t < from + many; t++) {
            text.append(t).append(" 1;");
        }
        return text.toString();
    }

    private static void look(DipLights x, String lines, int tenth, int worst) {
        Kit.book(x, lines);
        Kit.due("30 by '" + lines + "'", x.look(0), tenth);
        Kit.due("30 at the worst by '" + lines + "'", x.look(1), worst);
    }

    private static void lookForTheLast() {
        // Twelve TENTHS, twelve lines; PASSED in TENTH 6.
        DipLights x = Kit.onRoad("length 12;car 20 1 0;car 20 1 0;");
        look(x, lines(0, 12), -1, -1);
        look(x, lines(0, 11), 11, 1);
        look(x, lines(1, 11), 0, 1);
        // Of 36 CELLS by 3 CAR 1 has twelve TENTHS, CAR 0 by 1 has 36.
        DipLights y = Kit.onRoad("length 36;car 20 1 0;car 20 3 0;");
        look(y, lines(0, 12), -1, -1);
        look(y, lines(0, 11), 11, 3);
        // Of 37 it has thirteen.
        DipLights z = Kit.onRoad("length 37;car 20 1 0;car 20 3 0;");
        look(z, lines(0, 12), 12, 4);
    }

    private static void lookAtTheWorst() {
        DipLights x = Kit.onRoad("length 41;car 20 1 0;car 20 1 0;");
        // 20 apart in TENTH 10: 0 to 19 are full, 20 to 40 are not.
        look(x, "", 10, 21);
        look(x, "10 1;", 15, 10);
        look(x, "10 0;", 5, 11);
        // 38, 39 are left: no TENTH tells them apart.
        look(x, "0 1;1 0;", 2, 2);
        look(x, "0 0;", 1, 1);
        look(x, "0 0;1 1;", 2, 0);
        DipLights hidden = Kit.onRoad("length 10;bend 1;bend 2;bend 3;bend 4;bend 5;car 20 1 0;car 20 1 0;");
        look(hidden, "", 4, 40);
    }

    private static void rights() {
        DipLights x = Kit.onRoad("length 12;car 20 1 0;car 20 1 0;");
        Kit.rule(x, 1, "1");
        Kit.due("31 no lines", x.right(), 0);
        Kit.book(x, lines(0, 12));
        Kit.due("31 all twelve", x.right(), 12);
        Kit.book(x, lines(0, 11) + "11 0;");
        Kit.due("31 all but the last", x.right(), 11);
        Kit.book(x, "11 0;" + lines(0, 11));
        Kit.due("31 the first is wrong", x.right(), 0);
        Kit.book(x, "0 1;1 0;2 1;");
        Kit.due("31 from the first on", x.right(), 1);
        Kit.rule(x, 1, "0");
        Kit.due("31 by his RULE", x.right(), 0);
    }

    /** HIT just in odd CELLS and in 0 and 2: by 2 with SIGHT 4 even ones are SEEN at 4, odd ones at 3. */
    private static void draws() {
        int[] seeds = {0, 1, -1, 2, 65536, 1234567, Integer.MIN_VALUE, Integer.MAX_VALUE, -987654321};
        for (int n : new int[] {10, 11, 37, 60}) {
            for (int seed : seeds) {
                DipLights x = by("4", "length " + n + ";coat 0 0;car 20 2 0;");
                long s = seed & 0xffffffffL;
                int hits = 0;
                for (int many = 1; many <= 20; many++) {
                    s = (s * 1103515245L + 12345L) % (1L << 32);
                    long cell = s % (1L << 31) / (1L << 16) % n;
                    hits += cell % 2 == 1 || cell < 4 ? 1 : 0;
                    Kit.due("32 of " + n + " by " + seed + ", " + many, x.nights(seed, many, 0), hits);
                    Kit.due("32 nights without", x.nights(seed, many, 2), many - hits);
                    Kit.due("32 the most in one", x.nights(seed, many, 3), hits > 0 ? 1 : 0);
                }
                Kit.due("32 the COAT stands where it stood", x.coat(0, 0), 0);
            }
        }
    }

    private static void nightsOfManyCoats() {
        DipLights all = by("0", "length 60;" + "coat 7 9;".repeat(10) + "car 20 1 0;car 20 3 0;");
        Kit.due("32 all of CAR 0", all.nights(5, 20, 0), 200);
        Kit.due("32 all of CAR 1", all.nights(5, 20, 1), 200);
        Kit.due("32 none without", all.nights(5, 20, 2), 0);
        Kit.due("32 the most", all.nights(5, 20, 3), 20);
        DipLights none = Kit.onRoad("length 60;car 20 1 0;car 20 3 0;");
        Kit.due("32 no COATS: no HITS", none.nights(5, 20, 0) + none.nights(5, 20, 1), 0);
        Kit.due("32 no COATS: all without", none.nights(5, 20, 2), 20);
        Kit.due("32 no COATS: the most", none.nights(5, 20, 3), 0);
        DipLights one = by("0", "length 60;coat 7 9;coat 9 9;car 20 1 0;");
        Kit.due("32 CAR 1 is not there", one.nights(5, 20, 1), 0);
        Kit.due("32 CAR 0 alone", one.nights(5, 20, 3), 2);
        DipLights nobody = Kit.onRoad("coat 7 9;");
        Kit.due("32 no CARS", nobody.nights(5, 20, 0), 0);
        Kit.due("32 no CARS: all without", nobody.nights(5, 20, 2), 20);
    }

    private static void darkestCells() {
        // Behind a bend in 10 the last CELL is SEEN at 1 by CAR 0, and CAR 1 begins in it.
        DipLights last = by("9", "length 12;bend 10;car 20 1 0;car 20 1 0;");
        Kit.due("33 the last CELL", last.darkest(0), 11);
        Kit.due("34 0, 1, 11", last.dark(0, 0), 3);
        Kit.due("34 11, 10, 9", last.dark(1, 0), 3);
        DipLights first = by("9", "length 12;bend 1;car 20 1 0;car 20 1 0;");
        Kit.due("33 the first CELL", first.darkest(9), 0);
        DipLights one = by("9", "length 12;car 20 1 0;");
        Kit.due("33 by one CAR: of these the first", one.darkest(9), 0);
        Kit.due("33 none of no CARS", new DipLights().darkest(0), -1);
        DipLights all = by("0", "length 12;car 20 1 0;car 20 3 0;");
        Kit.due("33 all alike: the first", all.darkest(9), 0);
        // SIGHT 1 and H 0, 1: STOP 2.
        DipLights h = by("1", "length 12;car 20 1 0;car 20 1 0;");
        Kit.due("34 bright by 0", h.dark(0, 0), 12);
        Kit.due("34 bright by 1", h.dark(0, 1), 2);
        Kit.due("34 bright by 9", h.dark(0, 9), 2);
    }

    private static void needs() {
        DipLights x = by("1", "length 60;wet 20 40;car 20 3 0;");
        // By 3 he is in 21, 24, ..: STOP 12 from there, SIGHT 1 and 9 are 10; dry 6 is SIGHT 1 and 5.
        Kit.due("37 by none to 9", x.needs(30), -1);
        Kit.due("37 CELL 0", x.needs(0), -1);
        Kit.due("37 5 is too near", x.needs(5), -1);
        Kit.due("37 6 by 5", x.needs(6), 5);
        Kit.due("37 the last CELL: from 51 at 8, from 54 at 5", x.needs(59), 7);
        DipLights nine = by("3", "length 60;wet 0 59;car 20 3 0;");
        Kit.due("37 by 9", nine.needs(12), 9);
        Kit.due("37 one less than STOP", nine.needs(11), -1);
        DipLights zero = by("60", "length 60;car 20 1 0;");
        Kit.due("37 by 0", zero.needs(2), 0);
        Kit.due("37 by 0, the last CELL", zero.needs(59), 0);
        DipLights two = by("60", "length 60;car 20 1 0;car 20 1 0;");
        Kit.due("37 HIT by CAR 1", two.needs(59), -1);
        Kit.due("37 no CARS", new DipLights().needs(0), 0);
    }

    /** The RULES are as they are told, and so is all else. */
    private static void clearByRules() {
        DipLights x = Kit.onRoad("length 20;reach 9 2;coat 10 0;car 20 1 0;car 20 1 0;blind 0;");
        Kit.rule(x, 0, "0");
        Kit.rule(x, 1, "0");
        // Dipped all along: SIGHT 2 less the fog.
        Kit.due("38 CAR 0 dipped", x.clear(0), 0);
        Kit.due("38 CAR 1 dipped", x.clear(1), 0);
        DipLights y = Kit.onRoad("length 20;reach 9 2;coat 15 0;coat 4 0;car 20 1 0;car 20 1 0;blind 0;");
        Kit.rule(y, 0, "1");
        Kit.rule(y, 1, "0");
        // CAR 0 full to the end: 9 less 7 is 2; CAR 1 is dipped, and blind for 1 while in VIEW.
        Kit.due("38 CAR 0 full", y.clear(0), 7);
        DipLights none = Kit.onRoad("length 20;car 20 1 0;");
        Kit.due("38 no COATS", none.clear(0), 9);
        DipLights nine = by("fog - 7", "length 20;coat 9 0;car 20 1 0;");
        Kit.due("38 by fog 9 alone", nine.clear(0), 9);
        Kit.due("38 by fog 0 alone", by("2 - fog", "length 20;coat 9 0;car 20 1 0;").clear(0), 0);
        Kit.due("38 by none", by("1", "length 20;coat 9 0;car 20 1 0;").clear(0), -1);
        Kit.due("38 by the greatest, not the longest row", by("(fog - 8) * (fog - 8) - 1 + fog / 8 * 3",
                "length 20;coat 9 0;car 20 1 0;").clear(0), 9);
    }

    private static void pacesByRules() {
        // By full beams 6 are SEEN in time by 3, by dipped ones 2 by 1 alone.
        DipLights x = Kit.onRoad("length 30;reach 6 2;blind 0;coat 12 0;car 19 1 0;car 19 1 0;");
        Kit.rule(x, 0, "0");
        Kit.rule(x, 1, "1");
        Kit.due("39 CAR 0 dipped", x.paces(1), 0);
        Kit.due("39 CAR 0 dipped goes by 1", x.paces(0) / 10, 1);
        Kit.rule(x, 0, "1");
        Kit.rule(x, 1, "0");
        Kit.due("39 CAR 1 dipped", x.paces(1), 0);
        Kit.due("39 CAR 1 dipped goes by 1", x.paces(0) % 10, 1);
        DipLights none = Kit.onRoad("length 30;car 20 1 0;car 20 1 0;");
        Kit.due("39 no COATS: the greatest sum", none.paces(0), 33);
        Kit.due("39 no COATS: no HITS", none.paces(1), 0);
        DipLights slow = by("2", "length 30;coat 15 0;car 20 3 0;car 20 3 0;");
        Kit.due("39 both by 1", slow.paces(0), 11);
        Kit.due("39 no HITS", slow.paces(1), 0);
        DipLights all = by("0", "length 30;" + "coat 15 0;".repeat(10) + "car 20 1 0;car 20 1 0;");
        Kit.due("39 all alike: the greatest sum", all.paces(0), 33);
        Kit.due("39 twenty HITS", all.paces(1), 20);
        // Fast is better: SIGHT only by 3.
        DipLights fast = by("pace / 3 * 60", "length 30;coat 15 0;car 20 1 0;car 20 1 0;");
        Kit.due("39 by 3 each", fast.paces(0), 33);
        // SIGHT only by 2.
        DipLights even = by("(1 - (pace - 2) * (pace - 2)) * 60", "length 30;coat 15 0;car 20 1 0;car 20 1 0;");
        Kit.due("39 by 2 each", even.paces(0), 22);
    }
}
