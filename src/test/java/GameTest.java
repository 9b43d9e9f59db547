/** Promises 18 to 28: DUELS, HABITS, SAFE paces, LOADED, OLD, BETWEEN and BULBS. */
public final class GameTest {
    private static final int[] FARS = {9, 7, 5, 3, 1};
    private static final String SHORT = "length 10;reach 8 2;blind 0;car 20 1 0;car 20 1 0;";

    public static void main(String[] args) {
        costs();
        costOfHits();
        duels();
        duelOfFullBeams();
        duelWithoutRests();
        answers();
        habits();
        safe();
        loaded();
        ages();
        bulbs();
        Kit.end("GameTest");
    }

    /** Full beams dazzle for one TENTH: UNSAFE is who has dipped while the other one has not. */
    private static int unsafe(int own, int other) {
        int many = 0;
        for (int far : FARS) {
            many += other < far && far <= own ? 1 : 0;
        }
        return many;
    }

    private static void costs() {
        for (int own = 0; own <= 60; own += own < 12 ? 1 : 16) {
            DipLights x = Kit.onRoad(SHORT);
            for (int other = 0; other <= 60; other += other < 12 ? 1 : 16) {
                Kit.due("18 CAR 0 by " + own + ", " + other, x.cost(0, own, other), unsafe(own, other));
                Kit.due("18 CAR 1 by " + own + ", " + other, x.cost(1, own, other), unsafe(own, other));
            }
        }
        DipLights x = Kit.onRoad(SHORT);
        Kit.due("18 CAR 0 by 0, 0", x.cost(0, 0, 0), 0);
        Kit.due("18 nothing stays changed", x.at(0, 0, 1), 0);
        Kit.argument("18 own 61", () -> x.cost(0, 61, 0));
        Kit.argument("18 own -1", () -> x.cost(0, -1, 0));
        Kit.argument("18 other 61", () -> x.cost(0, 0, 61));
        Kit.argument("18 other -1", () -> x.cost(0, 0, -1));
        Kit.element("18 no such CAR", () -> x.cost(2, 61, 0));
        DipLights one = Kit.onRoad("car 20 1 0;");
        Kit.state("18 not two CARS", () -> one.cost(0, 1, 1));
        Kit.argument("18 behind others", () -> one.cost(0, 61, 1));
        Kit.element("18 behind others", () -> one.cost(1, 1, 1));
        Kit.due("47 IllegalStateException", one.status(2), 1);
    }

    private static void costOfHits() {
        DipLights x = Kit.onRoad("length 10;reach 8 2;blind 0;coat 0 0;coat 1 0;coat 9 0;car 20 1 0;car 20 1 0;");
        Kit.due("18 CAR 0 HITS two", x.cost(0, 0, 0), 20);
        Kit.due("18 CAR 1 HITS one", x.cost(1, 0, 0), 10);
        Kit.due("18 and is UNSAFE", x.cost(1, 9, 0), 15);
    }

    private static void duels() {
        DipLights x = Kit.onRoad(SHORT);
        // RESTS: none of 1, 3, 5, .. between the two: 0; 1, 2; 3.
        Kit.due("19 RESTS by 3", x.duel(3, 0), 6);
        Kit.due("19 the first", x.duel(3, 1), 0);
        Kit.due("19 KIND", x.duel(3, 2), 0);
        Kit.due("19 its cost", x.duel(3, 3), 0);
        Kit.due("19 RESTS by 0", x.duel(0, 0), 1);
        // 0; 1, 2; 3, 4; 5, 6; 7, 8; 9 to 20.
        Kit.due("19 RESTS by 20", x.duel(20, 0), 1 + 4 + 4 + 4 + 4 + 144);
        Kit.due("19 RESTS by 3 again", x.duel(3, 0), 6);
        Kit.argument("19 n 21", () -> x.duel(21, 0));
        Kit.argument("19 n -1", () -> x.duel(-1, 0));
        Kit.argument("19 another what", () -> x.duel(3, 4));
        Kit.argument("19 another what", () -> x.duel(3, -1));
        DipLights one = Kit.onRoad("car 20 1 0;");
        Kit.state("19 not two CARS", () -> one.duel(3, 0));
        Kit.argument("19 behind others", () -> one.duel(3, 4));
        Kit.argument("19 behind others", () -> one.duel(21, 4));
    }

    private static void duelOfFullBeams() {
        // Who has full beams is UNSAFE: the later he dips, the more.
        DipLights x = Kit.onRoad(SHORT);
        Kit.law(x, "3 - 3 * mine");
        Kit.due("19 one RESTS", x.duel(5, 0), 1);
        Kit.due("19 by 5 both", x.duel(5, 1), 505);
        Kit.due("19 KIND", x.duel(5, 2), 505);
        Kit.due("19 5 and 2 TENTHS each", x.duel(5, 3), 14);
        Kit.due("19 by 6: 5 or 6", x.duel(6, 0), 4);
        Kit.due("19 by 6 the first", x.duel(6, 1), 505);
        x.drives(1, 3, 0);
        // CAR 1 by 3 has STOP 6: UNSAFE in all its 4 TENTHS, whatever it does.
        Kit.due("19 the first RESTS", x.duel(4, 1), 100);
        // 9, 5, 1 CELLS apart: CAR 0 full in two of three TENTHS by 1, then 7 behind.
        Kit.due("19 its cost", x.duel(4, 3), 4 + 2 + 7);
        x.undo();
        Kit.due("19 as ahead", x.duel(5, 3), 14);
        Kit.law(x, "3");
        Kit.due("19 by another LAW", x.duel(5, 0), 36);
    }

    private static void duelWithoutRests() {
        // CAR 0 is safe if CAR 1's beams are as its own, CAR 1 if they are not.
        DipLights x = Kit.onRoad("length 10;car 20 1 0;car 20 1 1;");
        Kit.law(x, "9 * (tilt * (mine - other) * (mine - other) + (1 - tilt) * (1 - (mine - other) * (mine - other)))");
        Kit.due("19 by 0 there is one", x.duel(0, 0), 1);
        Kit.due("19 by 1 there is none", x.duel(1, 0), 0);
        Kit.due("19 none is the first", x.duel(1, 1), -1);
        Kit.due("19 KIND all the same", x.duel(1, 2), 0);
    }

    private static void answers() {
        DipLights x = Kit.onRoad(SHORT);
        Kit.due("20 all cost 0: the least", x.answer(0, 20), 0);
        Kit.due("20 of one alone", x.answer(1, 0), 0);
        Kit.law(x, "3 - 3 * mine");
        Kit.due("20 as early as he may", x.answer(0, 5), 5);
        Kit.due("20 5 and 6 alike: the least", x.answer(1, 6), 5);
        Kit.due("20 9 is enough", x.answer(1, 20), 9);
        Kit.law(x, "3 - 3 * (mine - other) * (mine - other)");
        Kit.rule(x, 1, "far - 4");
        // As CAR 1 does, who dips at 3: by 3 or 4.
        Kit.due("20 as the other one does", x.answer(0, 20), 3);
        Kit.due("20 of 0 to 2", x.answer(0, 2), 1);
        Kit.argument("20 n 21", () -> x.answer(0, 21));
        Kit.argument("20 n -1", () -> x.answer(0, -1));
        Kit.element("20 no such CAR", () -> x.answer(2, 21));
        DipLights one = Kit.onRoad("car 20 1 0;");
        Kit.state("20 not two CARS", () -> one.answer(0, 3));
        Kit.argument("20 behind others", () -> one.answer(0, 21));
        Kit.element("20 behind others", () -> one.answer(1, 3));
    }

    private static void habit(DipLights x, int d, int till, int round, int least, int greatest) {
        Kit.due("21 till from " + d, x.habit(d, 0), till);
        Kit.due("21 round from " + d, x.habit(d, 1), round);
        Kit.due("21 least from " + d, x.habit(d, 2), least);
        Kit.due("21 greatest from " + d, x.habit(d, 3), greatest);
    }

    private static void habits() {
        DipLights x = Kit.onRoad(SHORT);
        habit(x, 3, 3, 1, 0, 0);
        habit(x, 0, 0, 1, 0, 0);
        Kit.rule(x, 1, "1");
        habit(x, 3, 17, 1, 20, 20);
        habit(x, 20, 0, 1, 20, 20);
        // CAR 1 has full beams behind CAR 0's: whoever dips at 9 or further is not dazzled.
        Kit.rule(x, 1, "other * tenth");
        habit(x, 0, 8, 2, 8, 9);
        habit(x, 8, 0, 2, 8, 9);
        habit(x, 9, 0, 2, 8, 9);
        habit(x, 20, 11, 2, 8, 9);
        Kit.rule(x, 0, "1");
        habit(x, 20, 11, 2, 8, 9);
        Kit.argument("21 d 21", () -> x.habit(21, 0));
        Kit.argument("21 d -1", () -> x.habit(-1, 0));
        Kit.argument("21 another what", () -> x.habit(0, 4));
        Kit.argument("21 another what", () -> x.habit(0, -1));
        DipLights one = Kit.onRoad("car 20 1 0;");
        Kit.state("21 not two CARS", () -> one.habit(3, 0));
        Kit.argument("21 behind others", () -> one.habit(3, 4));
    }

    private static void safe() {
        DipLights x = Kit.onRoad("length 10;reach 9 2;car 30 1 4;car 40 3 0;wet 0 9;");
        Kit.due("22 9 full: 4", x.safe(0, 1), 4);
        Kit.due("22 2 dipped: 1", x.safe(1, 0), 1);
        x.weather(1, 9);
        Kit.due("22 1 dipped: none", x.safe(0, 0), 0);
        Kit.due("22 8 full: 4", x.safe(0, 1), 4);
        Kit.law(x, "10 - pace");
        Kit.due("22 pace as asked", x.safe(0, 1), 3);
        Kit.law(x, "pace * 2");
        Kit.due("22 9 at most", x.safe(0, 1), 9);
        Kit.law(x, "pace / 8 * 20");
        Kit.due("22 the greatest, not the first", x.safe(0, 0), 9);
        Kit.law(x, "tilt * 2 + wet + blind + tenth + met + other");
        Kit.due("22 tilt of CAR 0, all else 0", x.safe(0, 1), 4);
        Kit.due("22 tilt of CAR 1", x.safe(1, 1), 0);
        Kit.law(x, "age / 10 + mine * 4");
        Kit.due("22 age and mine", x.safe(1, 1), 4);
        Kit.due("22 age, dipped", x.safe(1, 0), 2);
        Kit.law(x, "far - 95");
        Kit.due("22 far 99", x.safe(0, 0), 2);
        Kit.argument("22 another full", () -> x.safe(0, 2));
        Kit.argument("22 another full", () -> x.safe(0, -1));
        Kit.element("22 no such CAR", () -> x.safe(2, 2));
    }

    private static void loaded() {
        DipLights x = new DipLights();
        Kit.due("23 as ahead of all looks", x.loaded(6, 0, 0, 0), 3);
        Kit.due("23 as ahead of all looks", x.loaded(6, 0, 0, 1), 8);
        Kit.due("23 not steady: 4 of 15", x.loaded(8, 1, 0, 0), 4);
        Kit.due("23 not steady: 4 of 15", x.loaded(8, 1, 0, 1), 15);
        Kit.due("23 F 0", x.loaded(0, 6, 3, 0), 0);
        Kit.due("23 F 0", x.loaded(0, 6, 3, 1), 1);
        Kit.due("23 F 16", x.loaded(16, 6, 3, 0), 1);
        Kit.due("23 F 16", x.loaded(16, 6, 3, 1), 1);
        Kit.due("23 48 of 48 and 55", x.loaded(8, 2, 1, 0), 48);
        Kit.due("23 48 of 48 and 55", x.loaded(8, 2, 1, 1), 103);
        Kit.due("23 2985984 of 3001609", x.loaded(8, 6, 6, 0), 2985984);
        Kit.due("23 2985984 of 3001609", x.loaded(8, 6, 6, 1), 3001609);
        Kit.argument("23 F", () -> x.loaded(17, 1, 1, 0));
        Kit.argument("23 F", () -> x.loaded(-1, 1, 1, 0));
        Kit.argument("23 n", () -> x.loaded(1, 7, 1, 0));
        Kit.argument("23 n", () -> x.loaded(1, -1, 0, 0));
        Kit.argument("23 k", () -> x.loaded(1, 3, 4, 0));
        Kit.argument("23 k", () -> x.loaded(1, 3, -1, 0));
        Kit.argument("23 part", () -> x.loaded(1, 3, 1, 2));
        Kit.argument("23 part", () -> x.loaded(1, 3, 1, -1));
    }

    private static void ages() {
        DipLights x = Kit.onRoad("blind 3;");
        Kit.due("24 17", x.blinds(17), 3);
        Kit.due("24 19", x.blinds(19), 3);
        Kit.due("24 20", x.blinds(20), 4);
        Kit.due("24 99", x.blinds(99), 7);
        Kit.argument("24 16", () -> x.blinds(16));
        Kit.argument("24 100", () -> x.blinds(100));
        Kit.due("25 more than 2", x.old(2), 17);
        Kit.due("25 more than 3", x.old(3), 20);
        Kit.due("25 more than 6", x.old(6), 80);
        Kit.due("25 more than 7", x.old(7), -1);
        Kit.due("25 more than 20", x.old(20), -1);
        Kit.argument("25 21", () -> x.old(21));
        Kit.argument("25 -1", () -> x.old(-1));
        x.weather(0, 0);
        Kit.due("25 by another B", x.old(0), 20);
        x.undo();
        Kit.due("26 3, 3 and 1", x.between(17, 7) ? 1 : 0, 0);
        Kit.due("26 3, 3 and 2", x.between(17, 8) ? 1 : 0, 1);
        Kit.due("26 7, 3 and 1", x.between(99, 11) ? 1 : 0, 0);
        Kit.due("26 7, 3 and 2", x.between(99, 12) ? 1 : 0, 1);
        Kit.due("26 none", x.between(40, 0) ? 1 : 0, 0);
        Kit.due("26 60", x.between(40, 60) ? 1 : 0, 1);
        Kit.argument("26 age", () -> x.between(16, 5) ? 1 : 0);
        Kit.argument("26 age", () -> x.between(100, 5) ? 1 : 0);
        Kit.argument("26 t", () -> x.between(40, 61) ? 1 : 0);
        Kit.argument("26 t", () -> x.between(40, -1) ? 1 : 0);
    }

    private static void bulbs() {
        DipLights x = new DipLights();
        Kit.due("27 1, 1", x.gets(1, 1), 2);
        Kit.due("27 1, 40", x.gets(1, 40), 3 - 39 * 39 - 20);
        Kit.due("27 40, 1", x.gets(40, 1), 100);
        Kit.due("27 cut", x.gets(4, 3), 9);
        Kit.argument("27 own 0", () -> x.gets(0, 1));
        Kit.argument("27 own 41", () -> x.gets(41, 1));
        Kit.argument("27 other 0", () -> x.gets(1, 0));
        Kit.argument("27 other 41", () -> x.gets(1, 41));
        // Brighter is always better: 3 more for each, less a half.
        for (int n = 1; n <= 20; n++) {
            Kit.due("28 RESTS by " + n, x.bulbs(n, 0), 1);
            Kit.due("28 the first by " + n, x.bulbs(n, 1), 101 * n);
            Kit.due("28 together by " + n, x.bulbs(n, 2), 4 * n);
        }
        Kit.argument("28 n 0", () -> x.bulbs(0, 0));
        Kit.argument("28 n 21", () -> x.bulbs(21, 0));
        Kit.argument("28 another what", () -> x.bulbs(3, 3));
        Kit.argument("28 another what", () -> x.bulbs(3, -1));
    }
}
