/** Promises 11 to 17, 35, 36 and 40: MEETINGS, gone through by hand. */
public final class MeetingTest {
    /** The ROAD of most of these: both come 1 CELL a TENTH, 9, 7, 5, 3, 1 CELLS apart. */
    private static final String SHORT = "length 10;reach 8 2;blind 0;car 20 1 0;car 20 1 0;";

    public static void main(String[] args) {
        lengths();
        rows();
        view();
        beamsAhead();
        dazzle();
        dazzledAgain();
        wet();
        coats();
        coatsOfCar1();
        sightOfNothing();
        hiddenCoats();
        sums();
        would();
        dips();
        gap();
        finds();
        Kit.end("MeetingTest");
    }

    private static void lengths() {
        Kit.due("11 no CARS", new DipLights().tenths(), 0);
        Kit.due("11 40 by 1", Kit.onRoad("car 20 1 0;").tenths(), 40);
        Kit.due("11 40 by 3", Kit.onRoad("car 20 3 0;").tenths(), 14);
        Kit.due("11 the slower one", Kit.onRoad("length 60;car 20 3 0;car 20 1 0;").tenths(), 60);
        Kit.due("11 the slower one", Kit.onRoad("length 60;car 20 2 0;car 20 3 0;").tenths(), 30);
        Kit.due("13 no CARS", new DipLights().passes(), -1);
        Kit.due("13 one CAR", Kit.onRoad("car 20 1 0;").passes(), -1);
        Kit.due("13 4 and 5, 5 and 4", Kit.onRoad(SHORT).passes(), 5);
        Kit.due("13 in the same CELL", Kit.onRoad("length 11;car 20 1 0;car 20 1 0;").passes(), 5);
        Kit.due("13 3 and 1", Kit.onRoad("length 41;car 20 3 0;car 20 1 0;").passes(), 10);
    }

    private static void rows() {
        DipLights x = Kit.onRoad(SHORT);
        for (int t = 0; t < 10; t++) {
            Kit.due("12 CELL of CAR 0", x.at(0, t, 0), t);
            Kit.due("12 CELL of CAR 1", x.at(1, t, 0), 9 - t);
            Kit.due("12 beams, 12 or nearer dipped", x.at(0, t, 1), t < 5 ? 0 : 1);
            Kit.due("12 blind", x.at(0, t, 2), 0);
            Kit.due("12 SIGHT", x.at(0, t, 3), t < 5 ? 2 : 8);
            Kit.due("12 UNSAFE", x.at(1, t, 4), 0);
            Kit.due("12 VIEW", x.at(1, t, 5), t < 5 ? 1 : 0);
        }
        for (int what = 0; what < 6; what++) {
            Kit.due("12 no more on the ROAD", x.at(0, 10, what), -1);
            Kit.due("12 TENTH 98", x.at(1, 98, what), -1);
        }
        Kit.argument("12 TENTH 99", () -> x.at(0, 99, 0));
        Kit.argument("12 TENTH -1", () -> x.at(0, -1, 0));
        Kit.argument("12 another what", () -> x.at(0, 0, 6));
        Kit.argument("12 another what", () -> x.at(0, 98, -1));
        Kit.element("12 no such CAR", () -> x.at(2, 99, 9));
        Kit.element("12 no such CAR", () -> x.at(-1, 0, 0));
        DipLights one = Kit.onRoad("length 10;car 20 3 0;");
        Kit.due("12 alone: CELL", one.at(0, 3, 0), 9);
        Kit.due("12 alone: gone", one.at(0, 4, 0), -1);
        Kit.due("12 alone: VIEW", one.at(0, 0, 5), 0);
        Kit.element("12 CAR 1 is not there", () -> one.at(1, 0, 0));
    }

    private static void view() {
        // A bend in CELL 4: strictly between till CAR 0 is in it, in TENTH 4.
        DipLights x = Kit.onRoad("length 12;bend 4;car 20 1 0;car 20 1 0;");
        for (int t = 0; t < 12; t++) {
            Kit.due("12 VIEW in " + t, x.at(0, t, 5), t == 4 || t == 5 ? 1 : 0);
            Kit.due("12 full in " + t, x.at(1, t, 1), t == 4 || t == 5 ? 0 : 1);
        }
        // In CELL 7 it is CAR 1 who comes to it, in TENTH 4.
        DipLights y = Kit.onRoad("length 12;bend 7;car 20 1 0;car 20 1 0;");
        Kit.due("12 VIEW in 3", y.at(0, 3, 5), 0);
        Kit.due("12 VIEW in 4", y.at(0, 4, 5), 1);
    }

    private static void beamsAhead() {
        DipLights x = Kit.onRoad(SHORT);
        Kit.rule(x, 0, "tenth - 2");
        Kit.rule(x, 1, "other");
        Kit.law(x, "1 + other * 2 + mine * 4");
        // CAR 0: dipped in 0, 1, 2, full behind; CAR 1 as CAR 0 was a TENTH ahead (full at first), while in VIEW.
        int[] beams0 = {0, 0, 0, 1, 1, 1};
        int[] beams1 = {1, 0, 0, 0, 1, 0};
        for (int t = 0; t < 6; t++) {
            Kit.due("12 beams of CAR 0 in " + t, x.at(0, t, 1), beams0[t]);
            Kit.due("12 beams of CAR 1 in " + t, x.at(1, t, 1), beams1[t]);
            int seen0 = t < 5 ? beams1[t] : 0;
            int seen1 = t < 5 ? beams0[t] : 0;
            Kit.due("12 SIGHT by beams now", x.at(0, t, 3), 1 + seen0 * 2 + beams0[t] * 4);
            Kit.due("12 SIGHT by beams now", x.at(1, t, 3), 1 + seen1 * 2 + beams1[t] * 4);
        }
        Kit.rule(x, 0, "1 - mine");
        Kit.due("12 mine of the TENTH ahead: 0", x.at(0, 0, 1), 0);
        Kit.due("12 mine of the TENTH ahead: 1", x.at(0, 1, 1), 1);
        Kit.rule(x, 0, "0");
        Kit.due("12 dipped to the last", x.at(0, 9, 1), 0);
        Kit.rule(x, 0, "mine");
        Kit.due("12 full ahead of the first, again", x.at(0, 0, 1), 1);
        Kit.due("12 full to the last", x.at(0, 9, 1), 1);
        Kit.rule(x, 0, "reach - 7");
        Kit.due("12 reach of the TENTH ahead", x.at(0, 0, 1), 1);
        Kit.rule(x, 0, "3 - reach");
        Kit.due("12 reach 8 ahead", x.at(0, 0, 1), 0);
        Kit.due("12 reach 2 ahead", x.at(0, 1, 1), 1);
        Kit.rule(x, 0, "met");
        Kit.due("12 not met", x.at(0, 4, 1), 0);
        Kit.due("12 met", x.at(0, 5, 1), 1);
        Kit.law(x, "pace + age + tilt");
        Kit.due("12 21", x.at(1, 0, 3), 21);
        Kit.law(x, "far");
        Kit.due("12 far", x.at(1, 3, 3), 3);
        Kit.due("12 far, not in VIEW", x.at(1, 5, 3), 60);
    }

    private static void dazzle() {
        // 20 CELLS apart, then 18, 16, 14: full ones dazzle from 15 on.
        DipLights x = Kit.onRoad("length 21;blind 2;car 59 1 0;car 17 1 0;");
        Kit.rule(x, 0, "1");
        Kit.rule(x, 1, "1");
        Kit.due("12 16 is too far", x.at(0, 2, 2), 0);
        Kit.due("12 14: 2 and 59 by 20", x.at(0, 3, 2), 4);
        Kit.due("12 14: 2 and 17 by 20", x.at(1, 3, 2), 2);
        Kit.due("12 dazzled still", x.at(0, 9, 2), 4);
        Kit.due("12 passed: one less", x.at(0, 10, 2), 3);
        Kit.due("12 two less", x.at(0, 11, 2), 2);
        Kit.due("12 three less", x.at(0, 12, 2), 1);
        Kit.due("12 none", x.at(0, 13, 2), 0);
        Kit.due("12 SIGHT: 20 by 5", x.at(0, 3, 3), 4);
        Kit.due("16 GLARE", x.sums(0, 1), 7);
        Kit.due("16 blind", x.sums(0, 2), 10);
        Kit.due("16 CAR 1 blind", x.sums(1, 2), 8);
        DipLights y = Kit.onRoad("length 16;blind 2;car 40 1 4;car 40 1 5;");
        Kit.rule(y, 0, "0");
        Kit.rule(y, 1, "0");
        Kit.due("12 TILT 5 dazzles at 15", y.at(0, 0, 2), 4);
        Kit.due("12 TILT 4 does not", y.at(1, 0, 2), 0);
        Kit.due("16 GLARE of the dipped", y.sums(1, 1), 8);
        Kit.due("16 GLARE of TILT 4", y.sums(0, 1), 0);
        DipLights z = Kit.onRoad("length 16;blind 0;car 19 1 0;car 19 1 9;");
        Kit.due("16 dazzled for 0 TENTHS", z.sums(0, 2), 0);
        Kit.due("16 is GLARE", z.sums(1, 1), 8);
    }

    private static void dazzledAgain() {
        // CAR 1 is full only in TENTH 0: CAR 0 is blind for 3, then 2, 1, 0; a RULE sees it as the TENTH begins.
        DipLights x = Kit.onRoad("length 16;blind 2;car 20 1 0;car 20 1 0;");
        Kit.rule(x, 1, "1 - tenth");
        Kit.rule(x, 0, "blind");
        Kit.law(x, "blind");
        int[] blind = {3, 2, 1, 0};
        for (int t = 0; t < 4; t++) {
            Kit.due("12 blind in " + t, x.at(0, t, 2), blind[t]);
            Kit.due("12 the LAW's blind is behind (b)", x.at(0, t, 3), blind[t]);
            Kit.due("12 the RULE's is ahead of it", x.at(0, t, 1), t == 0 || t > 3 ? 0 : 1);
        }
        Kit.due("12 no more", x.at(0, 4, 1), 0);
    }

    private static void wet() {
        DipLights x = Kit.onRoad("length 10;wet 3 4;reach 3 1;coat 5 0;car 20 1 0;");
        Kit.due("12 dry", x.at(0, 2, 4), 0);
        Kit.due("12 wet: 3 is less than 4", x.at(0, 3, 4), 1);
        Kit.due("12 wet", x.at(0, 4, 4), 1);
        Kit.due("12 dry again", x.at(0, 5, 4), 0);
        Kit.due("15 SEEN at 3", x.sees(0, 0), 3);
        Kit.due("14 HIT: wet as the TENTH begins", x.hits(0), 1);
        Kit.law(x, "wet * 9");
        Kit.due("12 SIGHT dry", x.at(0, 2, 3), 0);
        Kit.due("12 SIGHT wet", x.at(0, 4, 3), 9);
        DipLights y = Kit.onRoad("length 10;wet 5 6;reach 3 1;coat 5 0;car 20 1 0;");
        Kit.due("14 the COAT's CELL wet alone: not HIT", y.hits(0), 0);
        DipLights z = Kit.onRoad("length 10;wet 3 4;reach 4 1;coat 5 0;car 20 1 0;");
        Kit.due("14 SEEN at 4, STOP 4: not HIT", z.hits(0), 0);
    }

    private static void coats() {
        DipLights x = Kit.onRoad("length 20;reach 5 1;coat 0 9;coat 3 0;coat 4 0;coat 9 2;coat 19 0;coat 5 0;"
                + "car 20 2 0;");
        // By 2 a TENTH STOP is 4: CELLS 0, 2, 4, 6 .. SIGHT 5.
        Kit.due("15 in his own CELL", x.sees(0, 0), 0);
        Kit.due("15 3 ahead", x.sees(0, 1), 3);
        Kit.due("15 4 ahead", x.sees(0, 2), 4);
        Kit.due("15 9 ahead is too far, 7 is SIGHT and H", x.sees(0, 3), 7);
        Kit.due("15 19: from 14 on", x.sees(0, 4), 5);
        Kit.due("15 5: just SIGHT", x.sees(0, 5), 5);
        Kit.due("14 0 and 3 are HIT", x.hits(0), 3);
        Kit.element("14 no such CAR", () -> x.hits(1));
        Kit.element("15 no such CAR", () -> x.sees(1, 0));
        Kit.element("15 no such COAT", () -> x.sees(0, 6));
        Kit.element("15 no such COAT", () -> x.sees(0, -1));
        DipLights late = Kit.onRoad("length 20;coat 4 0;coat 5 0;car 20 2 0;");
        Kit.law(late, "tenth / 2");
        // Nothing SEEN in TENTHS 0, 1; in TENTH 2 he stands in CELL 4 and SEES 1 far.
        Kit.due("15 SEEN behind the HIT", late.sees(0, 0), 0);
        Kit.due("15 SEEN at 1", late.sees(0, 1), 1);
        Kit.due("14 both HIT", late.hits(0), 3);
    }

    private static void coatsOfCar1() {
        DipLights x = Kit.onRoad("length 20;reach 5 1;coat 19 9;coat 16 0;coat 15 0;coat 10 2;coat 0 0;coat 14 0;"
                + "car 20 1 0;car 20 2 0;");
        Kit.rule(x, 1, "1");
        Kit.law(x, "5");
        Kit.due("15 in his own CELL", x.sees(1, 0), 0);
        Kit.due("15 3 ahead", x.sees(1, 1), 3);
        Kit.due("15 4 ahead", x.sees(1, 2), 4);
        Kit.due("15 7 is SIGHT and H", x.sees(1, 3), 7);
        Kit.due("15 0: from 5 on", x.sees(1, 4), 5);
        Kit.due("14 19 and 16 are HIT", x.hits(1), 3);
        Kit.due("14 CAR 0 HITS the one in its CELL", x.hits(0), 16);
        Kit.element("14 no such CAR", () -> x.hits(2));
    }

    private static void sightOfNothing() {
        DipLights x = Kit.onRoad("length 10;coat 0 9;coat 5 9;car 20 1 0;");
        Kit.law(x, "0");
        Kit.due("15 SIGHT 0 sees nobody, bright or not", x.sees(0, 1), -1);
        Kit.due("15 nor in his own CELL", x.sees(0, 0), -1);
        Kit.due("14 both HIT", x.hits(0), 3);
        Kit.law(x, "1");
        Kit.due("15 SIGHT 1 and H 9", x.sees(0, 1), 5);
    }

    private static void hiddenCoats() {
        DipLights x = Kit.onRoad("length 20;bend 6;coat 6 0;coat 7 0;coat 9 0;car 20 1 0;");
        Kit.due("15 in the bend", x.sees(0, 0), 6);
        Kit.due("15 behind the bend: from it on", x.sees(0, 1), 1);
        Kit.due("15 further behind it", x.sees(0, 2), 3);
        Kit.due("14 the one just behind it", x.hits(0), 2);
    }

    private static void sums() {
        DipLights x = Kit.onRoad(SHORT);
        Kit.rule(x, 0, "1");
        Kit.rule(x, 1, "0");
        // CAR 0 is never dazzled; CAR 1 is in 0 to 4 (blind for 1), SIGHT 2 by 2, then 2.
        Kit.due("16 UNSAFE of CAR 0", x.sums(0, 0), 0);
        Kit.due("16 UNSAFE of CAR 1", x.sums(1, 0), 5);
        Kit.due("16 GLARE of CAR 0", x.sums(0, 1), 5);
        Kit.due("16 GLARE of CAR 1", x.sums(1, 1), 0);
        Kit.due("16 blind CAR 1", x.sums(1, 2), 5);
        Kit.due("16 full CAR 0", x.sums(0, 3), 10);
        Kit.due("16 full CAR 1", x.sums(1, 3), 0);
        Kit.due("16 no change", x.sums(0, 4), 0);
        Kit.due("16 dipped from the first on", x.sums(1, 4), 1);
        Kit.due("16 least SIGHT of CAR 0", x.sums(0, 5), 8);
        Kit.due("16 least SIGHT of CAR 1", x.sums(1, 5), 1);
        Kit.argument("16 another what", () -> x.sums(0, 6));
        Kit.argument("16 another what", () -> x.sums(0, -1));
        Kit.element("16 no such CAR", () -> x.sums(2, 6));
        Kit.rule(x, 0, "1 - mine");
        Kit.due("16 ten changes", x.sums(0, 4), 10);
    }

    private static void would() {
        DipLights x = Kit.onRoad("fog 3;car 20 2 7;");
        Kit.due("17 13 less 3", x.would(13, 0, 40, 0), 10);
        Kit.due("17 by 4", x.would(13, 3, 40, 0), 2);
        Kit.due("17 0 at least", x.would(0, 0, 40, 0), 0);
        Kit.due("17 57", x.would(60, 0, 99, 1), 57);
        Kit.law(x, "far - 50 + tilt + pace + tenth + met + other + mine");
        Kit.due("17 far 99, all else 0", x.would(60, 20, 17, 1), 49);
        Kit.law(x, "age - wet * 10 + reach + blind * 2 - fog");
        Kit.due("17 17 - 10 + 5 + 40 - 3", x.would(5, 20, 17, 1), 49);
        Kit.law(x, "age");
        Kit.due("17 60 at most", x.would(0, 0, 61, 0), 60);
        Kit.argument("17 reach", () -> x.would(61, 0, 40, 0));
        Kit.argument("17 reach", () -> x.would(-1, 0, 40, 0));
        Kit.argument("17 blind", () -> x.would(0, 21, 40, 0));
        Kit.argument("17 blind", () -> x.would(0, -1, 40, 0));
        Kit.argument("17 age", () -> x.would(0, 0, 16, 0));
        Kit.argument("17 age", () -> x.would(0, 0, 100, 0));
        Kit.argument("17 wet", () -> x.would(0, 0, 40, 2));
        Kit.argument("17 wet", () -> x.would(0, 0, 40, -1));
        Kit.due("47 all counted", x.status(1), 8);
    }

    private static void dips() {
        DipLights x = Kit.onRoad(SHORT);
        Kit.rule(x, 0, "far - 6");
        Kit.rule(x, 1, "tenth - 7");
        Kit.due("35 dipped at 5", x.dips(0, 0), 2);
        Kit.due("35 full behind", x.dips(0, 1), 5);
        Kit.due("35 dipped at once", x.dips(1, 0), 0);
        Kit.due("35 full in 8", x.dips(1, 1), 8);
        Kit.rule(x, 0, "1");
        Kit.rule(x, 1, "0");
        Kit.due("35 never dipped", x.dips(0, 0), -1);
        Kit.due("35 never again", x.dips(0, 1), -1);
        Kit.due("35 never full again", x.dips(1, 1), -1);
        Kit.argument("35 another what", () -> x.dips(0, 2));
        Kit.argument("35 another what", () -> x.dips(0, -1));
        Kit.element("35 no such CAR", () -> x.dips(2, 2));
    }

    private static void gap() {
        DipLights x = Kit.onRoad("length 20;car 20 1 0;");
        Kit.due("36 none", x.gap(0, 0), 0);
        Kit.due("36 none begins", x.gap(0, 1), -1);
        Kit.road(x, "length 20;reach 3 3;wet 2 3;wet 7 9;wet 12 14;wet 18 19;car 20 1 0;");
        Kit.due("36 the longest", x.gap(0, 0), 3);
        Kit.due("36 of these the first", x.gap(0, 1), 7);
        Kit.due("36 UNSAFE in all", x.sums(0, 0), 10);
        Kit.road(x, "length 10;reach 3 3;wet 8 9;wet 2 2;car 20 1 0;");
        Kit.due("36 at the end", x.gap(0, 0), 2);
        Kit.due("36 its begin", x.gap(0, 1), 8);
        Kit.road(x, "length 10;reach 3 3;wet 0 1;car 20 1 0;");
        Kit.due("36 at the begin", x.gap(0, 0), 2);
        Kit.due("36 its begin", x.gap(0, 1), 0);
        Kit.argument("36 another what", () -> x.gap(0, 2));
        Kit.argument("36 another what", () -> x.gap(0, -1));
        Kit.element("36 no such CAR", () -> x.gap(1, 2));
    }

    private static void finds() {
        DipLights x = Kit.onRoad("length 20;coat 2 0;coat 17 0;coat 9 0;coat 10 0;car 20 1 0;car 20 1 0;");
        Kit.law(x, "3");
        Kit.due("40 near CAR 0", x.finds(0, 0), 0);
        Kit.due("40 at once", x.finds(0, 1), 0);
        Kit.due("40 near CAR 1", x.finds(1, 0), 1);
        Kit.due("40 at once", x.finds(1, 1), 0);
        Kit.due("40 9: CAR 0 from 6 on, CAR 1 from 12 on", x.finds(2, 0), 0);
        Kit.due("40 in 6", x.finds(2, 1), 6);
        Kit.due("40 10: CAR 0 in 7, CAR 1 in 6", x.finds(3, 0), 1);
        Kit.due("40 in 6", x.finds(3, 1), 6);
        Kit.road(x, "length 11;coat 5 0;car 20 1 0;car 20 1 0;");
        Kit.law(x, "3");
        Kit.due("40 both in 2: the first", x.finds(0, 0), 0);
        Kit.due("40 in 2", x.finds(0, 1), 2);
        Kit.law(x, "0");
        Kit.due("40 none SEES it", x.finds(0, 0), -1);
        Kit.due("40 none SEES it", x.finds(0, 1), -1);
        Kit.argument("40 another what", () -> x.finds(0, 2));
        Kit.argument("40 another what", () -> x.finds(0, -1));
        Kit.element("40 no such COAT", () -> x.finds(1, 2));
    }
}
