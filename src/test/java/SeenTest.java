/** Promises 29 to 34 and 37 to 39: distances by the BOOK, NIGHTS, dark CELLS, fog and paces. */
public final class SeenTest {
    private static final String SHORT = "length 10;reach 8 2;blind 0;car 20 1 0;car 20 1 0;";
    private static final long ALL = (1L << 41) - 1;

    public static void main(String[] args) {
        distances();
        looks();
        rights();
        nights();
        nightsOfTwo();
        dark();
        needs();
        clear();
        paces();
        Kit.end("SeenTest");
    }

    private static void distances() {
        // 9, 7, 5, 3, 1 CELLS apart in TENTHS 0 to 4, not in VIEW in 5 to 9.
        DipLights x = Kit.onRoad(SHORT);
        Kit.due("29 without lines: all", x.distances(), ALL);
        Kit.book(x, "2 1;");
        Kit.due("29 0 to 4", x.distances(), 31);
        Kit.book(x, "2 0;");
        Kit.due("29 5 to 40", x.distances(), ALL - 31);
        Kit.book(x, "2 0;1 1;");
        Kit.due("29 5, 6", x.distances(), 96);
        Kit.book(x, "2 1;1 0;");
        Kit.due("29 none", x.distances(), 0);
        Kit.book(x, "9 1;");
        Kit.due("29 full behind, whoever", x.distances(), ALL);
        Kit.book(x, "10 0;");
        Kit.due("29 on the ROAD no more: never", x.distances(), 0);
        Kit.book(x, "10 1;");
        Kit.due("29 nor full", x.distances(), 0);
        Kit.rule(x, 1, "0");
        Kit.book(x, "2 1;");
        Kit.due("29 whatever his RULE is", x.distances(), 31);
        // CAR 0 is on the ROAD for longer than CAR 1.
        DipLights y = Kit.onRoad("length 10;car 20 1 0;car 20 3 0;");
        Kit.book(y, "3 1;");
        Kit.due("29 CAR 1's last TENTH", y.distances(), ALL);
        Kit.book(y, "4 1;");
        Kit.due("29 CAR 1 is gone, CAR 0 is not", y.distances(), 0);
        DipLights one = Kit.onRoad("car 20 1 0;");
        Kit.state("29 not two CARS", () -> one.distances());
        Kit.state("29 no CARS", () -> new DipLights().distances());
    }

    private static void looks() {
        DipLights x = Kit.onRoad(SHORT);
        // 41 distances: TENTH 0 tells 0 to 8 from 9 to 40: 32; the others tell less.
        Kit.due("30 the first TENTH", x.look(0), 0);
        Kit.due("30 32 at the worst", x.look(1), 32);
        Kit.book(x, "0 1;");
        // 0 to 8 are left: TENTH 2 tells 0 to 4 from 5 to 8.
        Kit.due("30 TENTH 2", x.look(0), 2);
        Kit.due("30 5 at the worst", x.look(1), 5);
        Kit.book(x, "0 1;2 1;");
        // 0 to 4: TENTH 3 tells 0, 1, 2 from 3, 4.
        Kit.due("30 TENTH 3", x.look(0), 3);
        Kit.due("30 3 at the worst", x.look(1), 3);
        Kit.book(x, "3 0;2 1;");
        // 3, 4: no TENTH tells them apart, so the first in no line.
        Kit.due("30 TENTH 0", x.look(0), 0);
        Kit.due("30 2 at the worst", x.look(1), 2);
        Kit.book(x, "0 0;1 1;");
        Kit.due("30 none left: TENTH 2", x.look(0), 2);
        Kit.due("30 0 at the worst", x.look(1), 0);
        Kit.book(x, "0 1;1 1;2 1;3 1;4 1;5 1;6 1;7 1;8 1;9 1;");
        Kit.due("30 there is no such TENTH", x.look(0), -1);
        Kit.due("30 there is no such TENTH", x.look(1), -1);
        DipLights y = Kit.onRoad("length 10;car 20 1 0;car 20 3 0;");
        Kit.book(y, "0 1;1 1;2 1;3 1;");
        Kit.due("30 CAR 1 is gone", y.look(0), -1);
        Kit.argument("30 another what", () -> x.look(2));
        Kit.argument("30 another what", () -> x.look(-1));
        DipLights one = Kit.onRoad("car 20 1 0;");
        Kit.state("30 not two CARS", () -> one.look(0));
        Kit.argument("30 behind others", () -> one.look(2));
    }

    private static void rights() {
        DipLights x = Kit.onRoad(SHORT);
        Kit.due("31 no lines", x.right(), 0);
        Kit.rule(x, 1, "far - 4");
        Kit.book(x, "0 1;2 1;3 0;");
        Kit.due("31 all", x.right(), 3);
        Kit.book(x, "3 0;2 0;0 1;4 0;");
        Kit.due("31 from the first on: till one is wrong", x.right(), 1);
        Kit.book(x, "3 1;2 1;0 1;");
        Kit.due("31 the first is wrong", x.right(), 0);
        Kit.book(x, "9 1;10 1;0 1;");
        Kit.due("31 on the ROAD no more", x.right(), 1);
        Kit.book(x, "10 0;");
        Kit.due("31 nor dipped there", x.right(), 0);
        DipLights one = Kit.onRoad("car 20 1 0;");
        Kit.state("31 not two CARS", () -> one.right());
    }

    /** The CELLS of the DRAWS by a SEED. */
    private static int[] draws(int seed, int many, int n) {
        int[] cells = new int[many];
        long s = seed & 0xffffffffL;
        for (int i = 0; i < many; i++) {
            s = (s * 1103515245L + 12345L) % 4294967296L;
            cells[i] = (int) (s / 65536 % 32768 % n);
        }
        return cells;
    }

    private static void nights() {
        // One CAR alone SEES 4 far: it HITS only those in CELLS 0 and 1.
        String road = "length 10;reach 4 4;coat 5 0;coat 6 0;car 20 1 0;";
        int[] seeds = {0, 1, -1, 77, 123456789, Integer.MIN_VALUE, Integer.MAX_VALUE};
        for (int seed : seeds) {
            DipLights x = Kit.onRoad(road);
            for (int many = 1; many <= 20; many++) {
                int[] cells = draws(seed, 2 * many, 10);
                int hits = 0;
                int quiet = 0;
                int most = 0;
                for (int i = 0; i < many; i++) {
                    int tonight = (cells[2 * i] < 2 ? 1 : 0) + (cells[2 * i + 1] < 2 ? 1 : 0);
                    hits += tonight;
                    quiet += tonight == 0 ? 1 : 0;
                    most = Math.max(most, tonight);
                }
                Kit.due("32 HITS of CAR 0", x.nights(seed, many, 0), hits);
                Kit.due("32 CAR 1 is not there", x.nights(seed, many, 1), 0);
                Kit.due("32 nights without", x.nights(seed, many, 2), quiet);
                Kit.due("32 the most", x.nights(seed, many, 3), most);
            }
        }
        DipLights x = Kit.onRoad(road);
        x.nights(1, 20, 0);
        Kit.due("32 nothing stays changed", x.coat(0, 0), 5);
        Kit.argument("32 many 0", () -> x.nights(1, 0, 0));
        Kit.argument("32 many 21", () -> x.nights(1, 21, 0));
        Kit.argument("32 another what", () -> x.nights(1, 1, 4));
        Kit.argument("32 another what", () -> x.nights(1, 1, -1));
        Kit.due("32 no CARS", new DipLights().nights(1, 20, 2), 20);
    }

    private static void nightsOfTwo() {
        DipLights x = Kit.onRoad("length 10;coat 5 9;coat 5 0;car 20 1 0;car 20 1 0;");
        Kit.law(x, "1");
        // SIGHT 1: who is bright by 9 is HIT only within 1 of where they begin, who is dark by both always.
        int[] cells = draws(99, 6, 10);
        int first = 3;
        int second = 3;
        int most = 0;
        for (int i = 0; i < 6; i += 2) {
            first += cells[i] < 2 ? 1 : 0;
            second += cells[i] > 7 ? 1 : 0;
            most = Math.max(most, 2 + (cells[i] < 2 || cells[i] > 7 ? 1 : 0));
        }
        Kit.due("32 CAR 0", x.nights(99, 3, 0), first);
        Kit.due("32 CAR 1", x.nights(99, 3, 1), second);
        Kit.due("32 never quiet", x.nights(99, 3, 2), 0);
        Kit.due("32 the most", x.nights(99, 3, 3), most);
    }

    private static void dark() {
        DipLights x = Kit.onRoad("length 10;car 20 1 0;");
        Kit.law(x, "1");
        Kit.due("34 all", x.dark(0, 0), 10);
        Kit.due("34 0 and 1", x.dark(0, 1), 2);
        Kit.due("33 by one CAR: the first", x.darkest(0), 0);
        Kit.road(x, "length 10;car 20 1 0;car 20 2 0;wet 4 4;");
        Kit.law(x, "2");
        // CAR 0: 0, 1, and 5 from the wet; CAR 1 has STOP 4: all.
        Kit.due("34 CAR 0", x.dark(0, 0), 3);
        Kit.due("34 CAR 1", x.dark(1, 0), 10);
        // Bright by 2 those 4 ahead of 9, 7, 5 are SEEN in time: 5, 3, 1.
        Kit.due("34 CAR 1, bright by 2", x.dark(1, 2), 7);
        Kit.due("33 by both", x.darkest(0), 0);
        Kit.argument("33 H 10", () -> x.darkest(10));
        Kit.argument("33 H -1", () -> x.darkest(-1));
        Kit.argument("34 H 10", () -> x.dark(0, 10));
        Kit.argument("34 H -1", () -> x.dark(0, -1));
        Kit.element("34 no such CAR", () -> x.dark(2, 10));
        Kit.due("33 no CARS", new DipLights().darkest(9), -1);
        // Where both HIT: behind the bend for the one, ahead of it for the other.
        DipLights y = Kit.onRoad("length 12;bend 4;bend 6;car 20 1 0;car 20 1 0;");
        Kit.law(y, "9");
        // CAR 0 sees 5 at 1 from 4 on, CAR 1 sees 5 at 1 from 6 on.
        Kit.due("33 between two bends", y.darkest(0), 5);
        Kit.due("34 0, 1, 5, 7", y.dark(0, 0), 4);
    }

    private static void needs() {
        DipLights x = Kit.onRoad("length 10;car 20 1 0;");
        Kit.law(x, "1");
        Kit.due("37 in his way at once", x.needs(0), -1);
        Kit.due("37 1 is too near", x.needs(1), -1);
        Kit.due("37 2: bright by 1", x.needs(2), 1);
        Kit.due("37 9: bright by 1", x.needs(9), 1);
        Kit.law(x, "2");
        Kit.due("37 2: bright by 0", x.needs(2), 0);
        Kit.argument("37 no such CELL", () -> x.needs(10));
        Kit.argument("37 no such CELL", () -> x.needs(-1));
        Kit.road(x, "length 60;wet 30 50;car 20 3 0;car 20 1 0;");
        Kit.law(x, "3");
        // CAR 0 by 3 from the wet: STOP 12, 3 and 9 are just enough; it stands in 30, 33, ..: 42 is 12 from 30.
        Kit.due("37 bright by 9", x.needs(42), 9);
        Kit.due("37 12 is more than it is SEEN at", x.needs(41), -1);
        Kit.due("37 no CARS", new DipLights().needs(39), 0);
    }

    private static void clear() {
        DipLights x = Kit.onRoad("length 10;reach 4 4;coat 5 0;car 20 1 0;");
        Kit.due("38 4 less 2", x.clear(0), 2);
        Kit.due("38 fog as it is", x.told(5), 0);
        Kit.due("38 SIGHT as it is", x.at(0, 0, 3), 4);
        Kit.law(x, "fog");
        Kit.due("38 the greatest", x.clear(0), 9);
        Kit.law(x, "fog * (5 - fog)");
        Kit.due("38 1 to 4", x.clear(0), 4);
        Kit.law(x, "1");
        Kit.due("38 by none", x.clear(0), -1);
        Kit.law(x, "2 - fog");
        Kit.due("38 by 0", x.clear(0), 0);
        Kit.element("38 no such CAR", () -> x.clear(1));
        Kit.element("38 no such CAR", () -> x.clear(-1));
        Kit.road(x, "length 10;reach 4 4;coat 9 0;car 20 1 0;car 20 1 0;");
        Kit.due("38 CAR 1 HITS always", x.clear(1), -1);
        Kit.due("38 CAR 0 by fog 2", x.clear(0), 2);
    }

    private static void paces() {
        DipLights x = Kit.onRoad("length 10;coat 5 0;car 20 3 0;car 20 3 0;");
        Kit.law(x, "4");
        // CAR 0 by 2 SEES it at 3 of 4; CAR 1 by 2 at 4; by 3 6 are needed.
        Kit.due("39 1 and 2", x.paces(0), 12);
        Kit.due("39 no HITS", x.paces(1), 0);
        Kit.due("39 P as it is", x.car(0, 1), 3);
        Kit.due("39 P as it is", x.car(1, 1), 3);
        Kit.due("39 the MEETING as it is", x.tenths(), 4);
        Kit.due("39 HITS as they are", x.hits(0), 1);
        Kit.law(x, "1");
        Kit.due("39 all alike: the greatest sum", x.paces(0), 33);
        Kit.due("39 two HITS of one", x.paces(1), 2);
        Kit.law(x, "4 * (4 - pace) / 3");
        Kit.due("39 1 and 1", x.paces(0), 11);
        Kit.road(x, "length 16;reach 2 1;blind 1;coat 7 0;car 20 1 0;car 20 1 0;");
        // By 1 one SEES it at 2 if the other one, by 3, has passed and is in VIEW no more.
        Kit.due("39 13 and 31 alike: the first", x.paces(0), 13);
        Kit.due("39 the one by 3 HITS", x.paces(1), 1);
        Kit.road(x, "length 30;car 20 2 0;car 20 1 0;");
        Kit.due("39 without COATS", x.paces(0), 33);
        Kit.due("39 P as it is", x.car(0, 1), 2);
        Kit.due("39 P as it is", x.car(1, 1), 1);
        Kit.argument("39 another what", () -> x.paces(2));
        Kit.argument("39 another what", () -> x.paces(-1));
        DipLights one = Kit.onRoad("car 20 1 0;");
        Kit.state("39 not two CARS", () -> one.paces(0));
        Kit.argument("39 behind others", () -> one.paces(2));
    }
}
