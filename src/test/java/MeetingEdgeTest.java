/** The bounds within a MEETING, part 2 of the document, each on both of its sides, worked out by hand. */
public final class MeetingEdgeTest {
    public static void main(String[] args) {
        onTheRoad();
        pass();
        passedForGood();
        strictlyBetween();
        sixBends();
        aheadOfTheFirst();
        usualRule();
        beamsOfTheTenthAhead();
        dazzleAtFifteen();
        dazzleByTilt();
        dazzleByBeamsNow();
        blindForHowLong();
        oneTenthLess();
        sightFromNoneToSixty();
        sightAndBright();
        aheadOfHim();
        bendsAndCoats();
        sightNone();
        firstTimeAlone();
        stopDry();
        stopWet();
        wetAsTheTenthBegins();
        throughOrTo();
        unsafe();
        sums();
        secondMeeting();
        wouldAllElse();
        dips();
        gaps();
        finds();
        Kit.end("MeetingEdgeTest");
    }

    private static DipLights by(String law, String road) {
        DipLights x = Kit.onRoad(road);
        Kit.due("4 '" + law + "'", Kit.law(x, law), 1);
        return x;
    }

    /** How many TENTHS both are on the ROAD, and in which CELL they are last. */
    private static void lasts(int cells, int pace, int tenths) {
        DipLights x = Kit.onRoad("length " + cells + ";car 20 " + pace + " 0;car 20 " + pace + " 0;");
        String what = cells + " CELLS by " + pace;
        Kit.due("11 " + what, x.tenths(), tenths);
        int way = pace * (tenths - 1);
        Kit.due("12 CAR 0 last, " + what, x.at(0, tenths - 1, 0), way);
        Kit.due("12 CAR 1 last, " + what, x.at(1, tenths - 1, 0), cells - 1 - way);
        for (int row = 0; row < 6; row++) {
            Kit.due("12 CAR 0 is there last, " + what, x.at(0, tenths - 1, row) == -1 ? 1 : 0, 0);
            Kit.due("12 CAR 0 gone, " + what, x.at(0, tenths, row), -1);
            Kit.due("12 CAR 1 gone, " + what, x.at(1, tenths, row), -1);
        }
    }

    private static void onTheRoad() {
        lasts(10, 1, 10);
        lasts(10, 2, 5);
        lasts(10, 3, 4);
        lasts(11, 2, 6);
        lasts(11, 3, 4);
        lasts(12, 3, 4);
        lasts(13, 3, 5);
        lasts(60, 1, 60);
        lasts(60, 2, 30);
        lasts(60, 3, 20);
        // Till no CAR is on the ROAD: the slower one counts, whichever it is.
        Kit.due("11 CAR 0 slower", Kit.onRoad("length 10;car 20 1 0;car 20 3 0;").tenths(), 10);
        Kit.due("11 CAR 1 slower", Kit.onRoad("length 10;car 20 3 0;car 20 1 0;").tenths(), 10);
        DipLights x = Kit.onRoad("length 10;car 20 1 0;car 20 3 0;");
        Kit.due("12 CAR 1 is gone, CAR 0 is not", x.at(1, 4, 1), -1);
        Kit.due("12 CAR 0 is on the ROAD", x.at(0, 9, 1), 1);
        Kit.due("11 no CARS", Kit.onRoad("length 60;coat 3 3;").tenths(), 0);
        Kit.due("11 one CAR", Kit.onRoad("length 60;car 20 1 0;").tenths(), 60);
    }

    private static void pass() {
        // 11 CELLS: both in CELL 5; 10 CELLS: 4 and 5, then 5 and 4.
        DipLights same = Kit.onRoad("length 11;car 20 1 0;car 20 1 0;");
        Kit.due("13 as soon as CAR 0's CELL is no less", same.passes(), 5);
        Kit.due("12 VIEW at 2", same.at(0, 4, 5), 1);
        Kit.due("12 no VIEW in one CELL", same.at(0, 5, 5), 0);
        Kit.due("12 nor for CAR 1", same.at(1, 5, 5), 0);
        DipLights over = Kit.onRoad("length 10;car 20 1 0;car 20 1 0;");
        Kit.due("13 CAR 0's CELL is above", over.passes(), 5);
        Kit.due("12 VIEW at 1", over.at(1, 4, 5), 1);
        Kit.due("12 no VIEW behind", over.at(1, 5, 5), 0);
        // By 3 and 3 of 20: 0 19, 3 16, 6 13, 9 10, 12 7.
        Kit.due("13 by 3 each", Kit.onRoad("length 20;car 20 3 0;car 20 3 0;").passes(), 4);
        Kit.due("13 by 3 and 1", Kit.onRoad("length 60;car 20 3 0;car 20 1 0;").passes(), 15);
        Kit.due("13 by 1 and 3", Kit.onRoad("length 60;car 20 1 0;car 20 3 0;").passes(), 15);
        Kit.due("13 the longest", Kit.onRoad("length 60;car 20 1 0;car 20 1 0;").passes(), 30);
        Kit.due("13 not two CARS", Kit.onRoad("length 60;car 20 1 0;").passes(), -1);
        Kit.due("13 no CARS", Kit.onRoad("length 60;").passes(), -1);
    }

    private static void passedForGood() {
        DipLights x = by("5 + met * 20", "length 11;car 20 1 0;car 20 2 0;");
        // 0 10, 1 8, 2 6, 3 4, 4 2: PASSED in TENTH 4; CAR 1 is gone in TENTH 6.
        Kit.due("13 in 4", x.passes(), 4);
        for (int t = 0; t < 11; t++) {
            Kit.due("12 met is 1 from then on, in " + t, x.at(0, t, 3), t < 4 ? 5 : 25);
            Kit.due("12 VIEW no more, in " + t, x.at(0, t, 5), t < 4 ? 1 : 0);
        }
        Kit.rule(x, 0, "met");
        Kit.due("12 met in a RULE: not yet", x.at(0, 3, 1), 0);
        Kit.due("12 met in a RULE: from then on", x.at(0, 4, 1), 1);
        Kit.due("12 met in a RULE: to the last", x.at(0, 10, 1), 1);
        DipLights alone = by("5 + met * 20", "length 11;car 20 1 0;");
        Kit.due("12 alone: never met", alone.at(0, 10, 3), 5);
    }

    private static void inView(String bends, String views) {
        DipLights x = Kit.onRoad("length 12;" + bends + "car 20 1 0;car 20 1 0;");
        for (int t = 0; t < views.length(); t++) {
            Kit.due("12 VIEW of CAR 0 by '" + bends + "' in " + t, x.at(0, t, 5), views.charAt(t) - '0');
            Kit.due("12 VIEW of CAR 1 by '" + bends + "' in " + t, x.at(1, t, 5), views.charAt(t) - '0');
        }
    }

    /** They are in 0 11, 1 10, 2 9, 3 8, 4 7, 5 6, then 6 5. */
    private static void strictlyBetween() {
        inView("", "111111000000");
        inView("bend 0;", "111111000000");
        inView("bend 11;", "111111000000");
        inView("bend 1;", "011111000000");
        inView("bend 10;", "011111000000");
        inView("bend 2;", "001111000000");
        inView("bend 9;", "001111000000");
        inView("bend 5;", "000001000000");
        inView("bend 6;", "000001000000");
        inView("bend 5;bend 6;", "000001000000");
        inView("bend 1;bend 9;", "001111000000");
    }

    private static void sixBends() {
        // Five of them are behind both from TENTH 3 on, the sixth in CELL 9 is between till TENTH 9.
        DipLights x = Kit.onRoad("length 20;bend 0;bend 1;bend 2;bend 17;bend 18;bend 9;car 20 1 0;car 20 1 0;");
        Kit.due("12 the sixth bend hides", x.at(0, 3, 5), 0);
        Kit.due("12 the sixth bend hides", x.at(0, 8, 5), 0);
        Kit.due("12 he is in it", x.at(0, 9, 5), 1);
        // A bend of an earlier ROAD is none of this one.
        Kit.road(x, "length 20;bend 0;bend 1;bend 2;bend 17;bend 18;car 20 1 0;car 20 1 0;");
        Kit.due("12 five bends", x.at(0, 1, 5), 0);
        Kit.due("12 five bends", x.at(0, 2, 5), 1);
        Kit.road(x, "length 20;car 20 1 0;car 20 1 0;");
        Kit.due("12 none", x.at(0, 0, 5), 1);
    }

    private static void aheadOfTheFirst() {
        DipLights x = by("3 + blind", "length 16;blind 9;reach 9 2;car 99 1 0;car 99 1 0;");
        Kit.rule(x, 0, "mine");
        Kit.rule(x, 1, "reach - 8");
        Kit.due("12 beams are full ahead of TENTH 0", x.at(0, 0, 1), 1);
        Kit.due("12 reach is by full ones", x.at(1, 0, 1), 1);
        Kit.rule(x, 0, "1 - blind");
        Kit.due("12 nobody is blind ahead of TENTH 0", x.at(0, 0, 1), 1);
        Kit.due("12 he is as TENTH 1 begins", x.at(0, 1, 1), 0);
        Kit.rule(x, 0, "other");
        Kit.due("12 the other one's are full, too", x.at(0, 0, 1), 1);
        Kit.rule(x, 0, "1 - tenth");
        Kit.due("12 TENTH 0", x.at(0, 0, 1), 1);
        Kit.due("12 TENTH 1", x.at(0, 1, 1), 0);
        Kit.due("16 dipped in TENTH 1: one change", x.sums(0, 4), 1);
        Kit.rule(x, 0, "tenth");
        Kit.due("16 dipped in TENTH 0, full in 1: two", x.sums(0, 4), 2);
        // Not in VIEW: other is 0 though his beams are full.
        DipLights y = Kit.onRoad("length 16;bend 3;car 20 1 0;car 20 1 0;");
        Kit.rule(y, 0, "other");
        Kit.due("12 not in VIEW", y.at(0, 0, 1), 0);
    }

    private static void usualRule() {
        // 14 CELLS: 13, 11 apart; 13 CELLS: 12 apart.
        DipLights far = Kit.onRoad("length 14;car 20 1 0;car 20 1 0;");
        Kit.due("12 far - 12 without: full at 13", far.at(0, 0, 1), 1);
        Kit.due("12 dipped at 11", far.at(0, 1, 1), 0);
        DipLights near = Kit.onRoad("length 13;car 20 1 0;car 20 1 0;");
        Kit.due("12 dipped at 12", near.at(0, 0, 1), 0);
        Kit.due("12 CAR 1 too", near.at(1, 0, 1), 0);
        Kit.due("12 99 not in VIEW: full", near.at(0, 6, 1), 1);
        DipLights law = Kit.onRoad("length 14;fog 2;reach 30 9;blind 1;car 20 1 0;car 20 1 9;");
        Kit.due("12 (30 - 2) / 3", law.at(0, 0, 3), 9);
        Kit.due("12 (9 - 2) / 3", law.at(0, 1, 3), 2);
    }

    private static void beamsOfTheTenthAhead() {
        // CAR 0 is dipped in TENTH 2 alone.
        DipLights x = by("1 + other * 2 + mine * 4 + reach * 8", "length 20;reach 2 1;car 20 1 0;car 20 1 0;");
        Kit.rule(x, 0, "(tenth - 2) * (tenth - 2)");
        Kit.rule(x, 1, "other");
        for (int t = 0; t < 6; t++) {
            int mine = t == 2 ? 0 : 1;
            int seen = t == 3 ? 0 : 1;
            Kit.due("12 CAR 1 by beams of the TENTH ahead, " + t, x.at(1, t, 1), seen);
            Kit.due("12 SIGHT by beams now, " + t, x.at(0, t, 3), 1 + seen * 2 + mine * 4 + (mine == 1 ? 16 : 8));
        }
    }

    private static void dazzleAtFifteen() {
        for (int pace = 1; pace <= 2; pace++) {
            // 17 CELLS: 16 apart, then 14 or 12; 16 CELLS: 15 apart.
            DipLights x = Kit.onRoad("length 17;car 20 " + pace + " 0;car 20 " + pace + " 0;");
            Kit.rule(x, 0, "1");
            Kit.rule(x, 1, "1");
            Kit.due("12 not dazzled at 16", x.at(0, 0, 2) + x.at(1, 0, 2), 0);
            Kit.due("12 dazzled at less", x.at(0, 1, 2) + x.at(1, 1, 2), 10);
            DipLights y = Kit.onRoad("length 16;car 20 " + pace + " 0;car 20 " + pace + " 0;");
            Kit.rule(y, 0, "1");
            Kit.rule(y, 1, "1");
            Kit.due("12 dazzled at 15", y.at(0, 0, 2) + y.at(1, 0, 2), 10);
        }
        DipLights hidden = Kit.onRoad("length 16;bend 7;car 20 1 9;car 20 1 9;");
        Kit.rule(hidden, 0, "1");
        Kit.rule(hidden, 1, "1");
        Kit.due("12 not in VIEW: not dazzled", hidden.at(0, 6, 2) + hidden.at(1, 6, 2), 0);
        Kit.due("12 in VIEW at 1: dazzled", hidden.at(0, 7, 2) + hidden.at(1, 7, 2), 10);
        Kit.due("16 one TENTH of GLARE", hidden.sums(0, 1), 1);
        Kit.due("12 passed: not dazzled", hidden.at(0, 8, 2), 4);
    }

    private static void dazzleByTilt() {
        for (int tilt = 0; tilt <= 9; tilt++) {
            DipLights x = Kit.onRoad("length 16;car 20 1 " + tilt + ";car 20 1 0;");
            Kit.rule(x, 0, "0");
            Kit.rule(x, 1, "0");
            Kit.due("12 by TILT " + tilt, x.at(1, 0, 2), tilt >= 5 ? 5 : 0);
            Kit.due("12 he himself is not", x.at(0, 0, 2), 0);
            Kit.due("16 GLARE by TILT " + tilt, x.sums(0, 1), tilt >= 5 ? 8 : 0);
            DipLights far = Kit.onRoad("length 17;car 20 1 0;car 20 1 " + tilt + ";");
            Kit.rule(far, 0, "0");
            Kit.rule(far, 1, "0");
            Kit.due("12 16 is too far by TILT " + tilt, far.at(0, 0, 2), 0);
            Kit.due("12 14 is not, by TILT " + tilt, far.at(0, 1, 2), tilt >= 5 ? 5 : 0);
        }
    }

    private static void dazzleByBeamsNow() {
        DipLights x = Kit.onRoad("length 16;car 20 1 0;car 20 1 0;");
        Kit.rule(x, 0, "0");
        Kit.rule(x, 1, "tenth - 1");
        Kit.due("12 dipped in 1", x.at(0, 1, 2), 0);
        Kit.due("12 full in 2: dazzled in 2", x.at(0, 2, 2), 5);
        Kit.rule(x, 1, "1 - tenth");
        Kit.due("12 full in 0", x.at(0, 0, 2), 5);
        Kit.due("12 dipped in 1: one TENTH less", x.at(0, 1, 2), 4);
        Kit.due("16 GLARE of one TENTH", x.sums(1, 1), 1);
    }

    private static void blindForHowLong() {
        int[] ages = {17, 19, 20, 39, 40, 59, 60, 79, 80, 99};
        for (int b = 0; b <= 9; b += 9) {
            for (int i = 0; i < ages.length; i++) {
                DipLights x = Kit.onRoad("length 16;blind " + b + ";car " + ages[i] + " 1 9;car 50 1 9;");
                int want = b + (i < 2 ? 0 : i / 2);
                Kit.due("24 AGE " + ages[i], x.blinds(ages[i]), want);
                Kit.due("12 AGE " + ages[i], x.at(0, 0, 2), want);
                Kit.due("12 AGE 50", x.at(1, 0, 2), b + 2);
                Kit.due("16 TENTHS blind", x.sums(0, 2), want == 0 ? 0 : Math.min(16, 8 + want - 1));
            }
        }
        // Dazzled for 0 TENTHS: not blind, SIGHT is as without.
        DipLights x = Kit.onRoad("length 16;blind 0;car 19 1 0;car 19 1 5;");
        Kit.due("12 blind for none", x.at(0, 0, 2), 0);
        Kit.due("12 SIGHT full", x.at(0, 0, 3), 20);
        Kit.due("16 GLARE all the same", x.sums(1, 1), 8);
    }

    private static void oneTenthLess() {
        // CAR 1 is full in TENTH 0 and in TENTH 3.
        DipLights x = Kit.onRoad("length 16;blind 1;car 40 1 0;car 40 1 0;");
        Kit.rule(x, 0, "0");
        Kit.rule(x, 1, "1 - tenth * (3 - tenth) * (3 - tenth)");
        int[] want = {3, 2, 1, 3, 2, 1, 0, 0, 0};
        for (int t = 0; t < want.length; t++) {
            Kit.due("12 blind in " + t, x.at(0, t, 2), want[t]);
        }
        Kit.due("16 six TENTHS", x.sums(0, 2), 6);
    }

    private static void sightFromNoneToSixty() {
        int[] all = {0, 1, 59, 60, 61, 999};
        for (int value : all) {
            DipLights x = by(Integer.toString(value), "car 20 1 0;");
            Kit.due("12 SIGHT by " + value, x.at(0, 0, 3), Math.min(60, value));
            Kit.due("17 SIGHT by " + value, x.would(0, 0, 17, 0), Math.min(60, value));
            Kit.due("16 least SIGHT by " + value, x.sums(0, 5), Math.min(60, value));
        }
        DipLights below = by("0 - 1", "car 20 1 0;");
        Kit.due("12 0 at least", below.at(0, 0, 3), 0);
        Kit.due("17 0 at least", below.would(60, 0, 17, 0), 0);
    }

    /** Who is SEEN in TENTH 0, and who in TENTH 1. */
    private static void sightAndBright() {
        for (int bright = 0; bright <= 9; bright++) {
            int just = 5 + bright;
            DipLights x = by("5", "length 40;coat " + just + " " + bright + ";coat " + (just + 1) + " " + bright
                    + ";coat " + (39 - just) + " " + bright + ";coat " + (38 - just) + " " + bright
                    + ";car 20 1 0;car 20 1 0;");
            Kit.due("15 SIGHT and H, " + bright, x.sees(0, 0), just);
            Kit.due("40 in TENTH 0", x.finds(0, 1), 0);
            Kit.due("15 one more is too far", x.sees(0, 1), just);
            Kit.due("40 in TENTH 1", x.finds(1, 1), 1);
            Kit.due("15 CAR 1: SIGHT and H", x.sees(1, 2), just);
            Kit.due("40 CAR 1 in TENTH 0", x.finds(2, 1), 0);
            Kit.due("15 CAR 1: one more is too far", x.sees(1, 3), just);
            Kit.due("40 CAR 1 in TENTH 1", x.finds(3, 1), 1);
        }
    }

    /** SIGHT is 9 from TENTH 5 on: who is behind then is never SEEN, who is in his CELL at 0. */
    private static void aheadOfHim() {
        DipLights x = by("tenth / 5 * 9", "length 20;coat 4 9;coat 5 9;coat 6 9;coat 15 9;coat 14 9;coat 13 9;"
                + "car 20 1 0;car 20 1 0;");
        Kit.due("15 behind him", x.sees(0, 0), -1);
        Kit.due("15 in his own CELL", x.sees(0, 1), 0);
        Kit.due("15 ahead of him", x.sees(0, 2), 1);
        Kit.due("15 behind CAR 1", x.sees(1, 3), -1);
        Kit.due("15 in CAR 1's own CELL", x.sees(1, 4), 0);
        Kit.due("15 ahead of CAR 1", x.sees(1, 5), 1);
        // 5 was come to in TENTH 4, ahead of being SEEN; 6 is SEEN at 1 of 2.
        Kit.due("14 all three", x.hits(0), 7);
        Kit.due("14 all three of CAR 1", x.hits(1), 56);
    }

    private static void bendsAndCoats() {
        DipLights x = by("60", "length 20;bend 8;coat 7 0;coat 8 0;coat 9 0;coat 10 0;car 20 1 0;car 20 1 0;");
        Kit.due("15 ahead of the bend", x.sees(0, 0), 7);
        Kit.due("15 in it: not strictly between", x.sees(0, 1), 8);
        Kit.due("15 just behind it: from it on", x.sees(0, 2), 1);
        Kit.due("15 behind it: from it on", x.sees(0, 3), 2);
        Kit.due("14 SEEN at 1 is HIT, at 2 is not", x.hits(0), 4);
        Kit.due("15 CAR 1: just behind it", x.sees(1, 0), 1);
        Kit.due("15 CAR 1: in it", x.sees(1, 1), 11);
        Kit.due("14 CAR 1 HITS the one", x.hits(1), 1);
        DipLights own = by("60", "length 20;bend 0;bend 19;coat 5 0;car 20 1 0;car 20 1 0;");
        Kit.due("15 a bend in his own CELL", own.sees(0, 0), 5);
        Kit.due("15 a bend in CAR 1's own CELL", own.sees(1, 0), 14);
    }

    private static void sightNone() {
        DipLights x = by("tenth / 3", "length 20;coat 0 9;coat 12 9;car 20 1 0;");
        // SIGHT 0 in TENTHS 0 to 2, 1 in TENTH 3: 12 is 9 away then.
        Kit.due("15 nobody by SIGHT 0, in his own CELL neither", x.sees(0, 0), -1);
        Kit.due("15 by SIGHT 1", x.sees(0, 1), 9);
        Kit.due("40 in TENTH 3", x.finds(1, 1), 3);
        Kit.due("14 one never SEEN is HIT", x.hits(0), 1);
    }

    private static void firstTimeAlone() {
        // SIGHT 1 in TENTHS 0 to 4, then 60: 3 is SEEN in TENTH 2, 6 and 7 are in TENTH 5.
        DipLights x = by("1 + tenth / 5 * 59", "length 20;coat 3 0;coat 6 0;coat 7 0;car 20 1 0;");
        Kit.due("15 3 at 1", x.sees(0, 0), 1);
        Kit.due("15 6 at 1", x.sees(0, 1), 1);
        Kit.due("15 7 at 2", x.sees(0, 2), 2);
        Kit.due("14 at 1 HIT, at 2 not", x.hits(0), 3);
        // SEEN at 9 in TENTH 0; that SIGHT is 0 behind that changes nothing.
        DipLights y = by("9 - tenth * 9", "length 20;coat 9 0;coat 10 0;car 20 1 0;");
        Kit.due("15 9 at 9", y.sees(0, 0), 9);
        Kit.due("15 10 never", y.sees(0, 1), -1);
        Kit.due("14 the one SEEN in time is not HIT", y.hits(0), 2);
    }

    /** By P dry, the COAT in CELL 6 times P is SEEN at SIGHT: 2 times P is enough, one less is not. */
    private static void stopDry() {
        for (int pace = 1; pace <= 3; pace++) {
            int cell = 6 * pace;
            int stop = 2 * pace;
            String road = "length 40;coat " + cell + " 0;coat " + (39 - cell) + " 0;car 20 " + pace + " 0;car 20 " + pace + " 0;";
            DipLights x = by(Integer.toString(stop), road);
            Kit.due("15 SEEN at STOP, P " + pace, x.sees(0, 0), stop);
            Kit.due("14 not HIT at STOP, P " + pace, x.hits(0) & 1, 0);
            Kit.due("14 CAR 1 at STOP, P " + pace, x.hits(1) & 2, 0);
            DipLights y = by(Integer.toString(stop - 1), road);
            Kit.due("14 HIT at fewer, P " + pace, y.hits(0) & 1, 1);
            Kit.due("14 CAR 1 at fewer, P " + pace, y.hits(1) & 2, 2);
        }
    }

    private static void stopWet() {
        for (int pace = 1; pace <= 3; pace++) {
            int cell = 6 * pace;
            int stop = 4 * pace;
            String road = "length 40;wet 0 39;coat " + cell + " 0;coat " + (39 - cell) + " 0;car 20 " + pace + " 0;car 20 " + pace + " 0;";
            DipLights x = by(Integer.toString(stop), road);
            Kit.due("15 SEEN at STOP, wet, P " + pace, x.sees(0, 0), stop);
            Kit.due("14 not HIT at STOP, wet, P " + pace, x.hits(0) & 1, 0);
            Kit.due("14 CAR 1 at STOP, wet, P " + pace, x.hits(1) & 2, 0);
            DipLights y = by(Integer.toString(stop - 1), road);
            Kit.due("14 HIT at fewer, wet, P " + pace, y.hits(0) & 1, 1);
            Kit.due("14 CAR 1 at fewer, wet, P " + pace, y.hits(1) & 2, 2);
        }
    }

    /** By 1 he comes to CELL 10 from CELL 9: that one counts, not where he SEES it, nor where it stands. */
    private static void wetAsTheTenthBegins() {
        for (int wet = 5; wet <= 12; wet++) {
            DipLights x = by("3", "length 20;coat 10 0;wet " + wet + " " + wet + ";car 20 1 0;");
            Kit.due("15 SEEN at 3", x.sees(0, 0), 3);
            Kit.due("14 wet in " + wet, x.hits(0), wet == 9 ? 1 : 0);
            Kit.due("12 UNSAFE there alone", x.at(0, wet, 4), 1);
            Kit.due("16 UNSAFE there alone", x.sums(0, 0), 1);
        }
        // By 3 he goes through 10 and 11 from CELL 9.
        DipLights x = by("9", "length 20;coat 10 0;coat 11 0;coat 12 0;coat 13 0;wet 9 9;car 20 3 0;");
        // From 3 at 7, 8, 9, from 6 at 7: STOP 12 for the first three, 6 for the last.
        Kit.due("14 those gone through or come to from the wet", x.hits(0), 7);
    }

    /** By SIGHT 0 everybody is HIT, in the first CELL and in the last, however the ROAD ends. */
    private static void throughOrTo() {
        for (int cells : new int[] {10, 11, 12, 60}) {
            for (int pace = 1; pace <= 3; pace++) {
                DipLights x = by("0", "length " + cells + ";coat 0 9;coat " + (cells - 1) + " 9;car 20 " + pace
                        + " 0;car 20 " + pace + " 0;");
                Kit.due("34 all " + cells + " by " + pace, x.dark(0, 9), cells);
                Kit.due("34 CAR 1: all " + cells + " by " + pace, x.dark(1, 9), cells);
                Kit.due("14 the first and the last", x.hits(0), 3);
                Kit.due("14 CAR 1: the first and the last", x.hits(1), 3);
            }
        }
        // SIGHT 0 in TENTH 0 alone, then 60: by P he goes through P CELLS, and is in his own.
        for (int pace = 1; pace <= 3; pace++) {
            DipLights x = by("tenth * 60", "length 40;car 20 " + pace + " 0;car 20 " + pace + " 0;");
            // In TENTH 1 he is in CELL P: those less than STOP from there are HIT, too.
            Kit.due("34 by " + pace, x.dark(0, 0), 1 + pace + 2 * pace - 1);
            Kit.due("34 CAR 1 by " + pace, x.dark(1, 0), 1 + pace + 2 * pace - 1);
        }
        DipLights none = Kit.onRoad("length 10;car 20 1 0;car 20 1 0;");
        Kit.due("14 no COATS", none.hits(0) + none.hits(1), 0);
        DipLights ten = by("0", "length 10;" + "coat 5 0;".repeat(10) + "car 20 1 0;");
        Kit.due("14 ten COATS, as bits", ten.hits(0), 1023);
    }

    private static void unsafe() {
        for (int pace = 1; pace <= 3; pace++) {
            DipLights x = by("10 - tenth", "length 30;wet 0 0;car 20 " + pace + " 0;");
            for (int t = 0; t < 10; t++) {
                int stop = (t == 0 ? 4 : 2) * pace;
                Kit.due("12 UNSAFE: SIGHT less than STOP, " + t, x.at(0, t, 4), 10 - t < stop ? 1 : 0);
            }
        }
        for (int stop : new int[] {2, 4}) {
            String road = "length 10;car 20 1 0;" + (stop == 4 ? "wet 0 9;" : "");
            Kit.due("16 SIGHT at STOP is safe", by(Integer.toString(stop), road).sums(0, 0), 0);
            Kit.due("16 SIGHT below STOP is not", by(Integer.toString(stop - 1), road).sums(0, 0), 10);
        }
    }

    private static void sums() {
        DipLights x = by("5 + tenth", "length 10;car 20 1 0;");
        Kit.due("16 the least SIGHT, in the first TENTH", x.sums(0, 5), 5);
        Kit.law(x, "50 - tenth");
        Kit.due("16 in the last TENTH", x.sums(0, 5), 41);
        Kit.law(x, "5 + (tenth - 4) * (tenth - 4)");
        Kit.due("16 between", x.sums(0, 5), 5);
        Kit.rule(x, 0, "0");
        Kit.due("16 never full", x.sums(0, 3), 0);
        Kit.due("16 one change: in TENTH 0", x.sums(0, 4), 1);
        Kit.rule(x, 0, "1");
        Kit.due("16 full in all", x.sums(0, 3), 10);
        Kit.due("16 no change", x.sums(0, 4), 0);
        Kit.rule(x, 0, "9 - tenth");
        Kit.due("16 nine TENTHS", x.sums(0, 3), 9);
        Kit.due("16 one change: in the last TENTH", x.sums(0, 4), 1);
        Kit.rule(x, 0, "1 - mine");
        Kit.due("16 five TENTHS", x.sums(0, 3), 5);
        Kit.due("16 a change in each", x.sums(0, 4), 10);
    }

    /** Nothing of an earlier MEETING, a longer one, that ended blind and dipped, is left in the next. */
    private static void secondMeeting() {
        String first = "length 60;blind 9;reach 1 1;car 99 1 9;car 99 1 9;coat 30 0;";
        String second = "length 12;bend 4;blind 9;coat 3 0;car 99 3 9;car 99 3 9;";
        DipLights x = Kit.onRoad(first);
        Kit.rule(x, 0, "(tenth - 45) * (tenth - 45) - 1");
        Kit.due("16 a long MEETING: blind", x.sums(0, 2) > 12 ? 1 : 0, 1);
        Kit.due("16 a long MEETING: UNSAFE", x.sums(0, 0) > 12 ? 1 : 0, 1);
        Kit.road(x, second);
        DipLights fresh = Kit.onRoad(second);
        Kit.due("3 as on a new object", Say.difference(Say.all(x, false), Say.all(fresh, false)), "");
        DipLights y = Kit.onRoad("length 12;bend 4;blind 9;car 99 1 9;car 99 1 9;");
        Kit.due("12 blind at the end", y.at(0, 11, 2) > 0 ? 1 : 0, 1);
        Kit.due("43 another B", y.weather(0, 8), 1);
        Kit.due("12 not blind in TENTH 0", y.at(0, 0, 2), 0);
        Kit.due("12 nor CAR 1", y.at(1, 0, 2), 0);
        int once = y.cost(0, 0, 0);
        Kit.due("18 asked again", y.cost(0, 0, 0), once);
        Kit.due("18 of CAR 1", y.cost(1, 0, 0), once);
        // All TENTHS full, UNSAFE, blind, with GLARE, for longer than the next has TENTHS.
        DipLights z = by("0", "length 12;car 99 1 9;car 99 1 9;");
        Kit.due("16 UNSAFE in 12", z.sums(0, 0), 12);
        Kit.due("41 by 3", z.drives(0, 3, 9) + z.drives(1, 3, 9), 2);
        Kit.due("11 four TENTHS", z.tenths(), 4);
        Kit.due("16 UNSAFE in 4", z.sums(0, 0), 4);
        Kit.due("16 GLARE in 2", z.sums(0, 1), 2);
        Kit.due("16 blind in 4", z.sums(0, 2), 4);
        Kit.due("36 the longest row", z.gap(0, 0), 4);
        Kit.rule(z, 0, "1");
        Kit.due("16 full in 4", z.sums(0, 3), 4);
        Kit.due("16 no change", z.sums(0, 4), 0);
        Kit.due("35 never dipped", z.dips(0, 0), -1);
    }

    private static void wouldAllElse() {
        DipLights fresh = new DipLights();
        Kit.due("17 by the usual LAW", fresh.would(60, 0, 17, 0), 60);
        Kit.due("17 by the usual LAW", fresh.would(60, 20, 99, 1), 2);
        Kit.due("17 by the usual LAW", fresh.would(0, 0, 17, 0), 0);
        // A MEETING that has been gone through tells nothing here.
        DipLights x = by("tilt + pace + tenth + met + other + mine + far - 90", "length 10;fog 3;wet 0 9;car 50 3 9;car 50 3 9;");
        Kit.due("11 gone through", x.tenths(), 4);
        Kit.due("17 far 99, all else 0", x.would(60, 20, 99, 1), 9);
        Kit.due("22 pace, tilt and mine of his own: 27 at 9", x.safe(0, 1), 9);
        Kit.law(x, "tenth + met + other + wet + blind + far - 90");
        Kit.due("11 gone through", x.tenths(), 4);
        Kit.due("22 nobody else there, TENTH 0, dry, not blind: 9", x.safe(0, 1), 4);
        Kit.law(x, "fog * 10");
        Kit.due("17 fog as it is", x.would(60, 0, 17, 0), 30);
        Kit.due("43 another fog", x.weather(0, 0), 1);
        Kit.due("17 fog as it is", x.would(60, 0, 17, 0), 0);
    }

    private static void dips() {
        DipLights x = Kit.onRoad("length 10;car 20 1 0;");
        Kit.due("35 never dipped", x.dips(0, 0), -1);
        Kit.due("35 nor full again", x.dips(0, 1), -1);
        Kit.rule(x, 0, "tenth");
        Kit.due("35 in TENTH 0", x.dips(0, 0), 0);
        Kit.due("35 full again in 1", x.dips(0, 1), 1);
        Kit.rule(x, 0, "9 - tenth");
        Kit.due("35 in the last TENTH", x.dips(0, 0), 9);
        Kit.due("35 never full again", x.dips(0, 1), -1);
        Kit.rule(x, 0, "tenth - 8");
        Kit.due("35 full again in the last TENTH", x.dips(0, 1), 9);
        Kit.rule(x, 0, "tenth - 9");
        Kit.due("35 never full again", x.dips(0, 1), -1);
        Kit.rule(x, 0, "(tenth - 3) * (tenth - 6)");
        Kit.due("35 first in 3", x.dips(0, 0), 3);
        Kit.due("35 behind that, not ahead", x.dips(0, 1), 7);
        Kit.rule(x, 0, "0");
        Kit.due("35 dipped to the end", x.dips(0, 1), -1);
    }

    private static void gap(String law, int longest, int begin) {
        DipLights x = by(law, "length 10;car 20 1 0;");
        Kit.due("36 by '" + law + "'", x.gap(0, 0), longest);
        Kit.due("36 begins by '" + law + "'", x.gap(0, 1), begin);
    }

    private static void gaps() {
        gap("2", 0, -1);
        gap("1", 10, 0);
        gap("tenth * 2", 1, 0);
        gap("(9 - tenth) * 2", 1, 9);
        gap("(4 - tenth) * (4 - tenth) * 2", 1, 4);
        // UNSAFE in 2 and in 7 alone, then in 2, 3 and 6, 7; then in 1 and 8, 9.
        gap("(tenth - 2) * (tenth - 2) * (tenth - 7) * (tenth - 7)", 1, 2);
        gap("(tenth - 2) * (tenth - 3) * (tenth - 6) * (tenth - 7)", 2, 2);
        gap("most[0 - 1, (tenth - 1) * (tenth - 1) * (tenth - 8) * (tenth - 9)]", 2, 8);
    }

    private static void finds() {
        DipLights one = by("60", "length 10;coat 9 0;car 20 1 0;");
        Kit.due("40 CAR 0 alone", one.finds(0, 0), 0);
        Kit.due("40 in TENTH 0", one.finds(0, 1), 0);
        DipLights none = Kit.onRoad("length 10;coat 9 0;");
        Kit.due("40 no CARS", none.finds(0, 0), -1);
        Kit.due("40 no CARS", none.finds(0, 1), -1);
        DipLights both = by("60", "length 10;coat 9 0;car 20 1 0;car 20 1 0;");
        Kit.due("40 both in TENTH 0: the first", both.finds(0, 0), 0);
        // CAR 1 alone SEES it: by AGE.
        DipLights second = by("age / 30 * 60", "length 10;coat 4 0;car 20 1 0;car 30 1 0;");
        Kit.due("40 CAR 1", second.finds(0, 0), 1);
        Kit.due("40 CAR 1 in TENTH 0", second.finds(0, 1), 0);
        Kit.due("15 CAR 0 never", second.sees(0, 0), -1);
        DipLights last = by("tenth / 9", "length 10;coat 9 0;coat 0 0;car 20 1 0;car 20 1 0;");
        Kit.due("40 in the last TENTH", last.finds(0, 1), 9);
        Kit.due("40 by CAR 0, in its own CELL", last.finds(0, 0), 0);
        Kit.due("40 by CAR 1, in its own CELL", last.finds(1, 0), 1);
        Kit.due("15 at 0", last.sees(1, 1), 0);
    }
}
