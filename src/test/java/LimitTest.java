import java.util.List;

/** How many changes and IMAGES there may be: full, empty, one less; that a call beyond leaves all as it was. */
public final class LimitTest {
    private static final String ROAD = "length 20;wet 3 9;coat 8 0;coat 15 2;fog 1;blind 2;reach 10 3;car 40 1 0;car 20 2 5;";

    public static void main(String[] args) {
        twentyChanges();
        beyondTwenty();
        refusedBeyondTwenty();
        roomAgain();
        noneToUndo();
        eachKindUndone();
        sameAgain();
        threeImages();
        beyondThree();
        noImage();
        imageOfTwenty();
        imageKeepsEachNumber();
        imageOfNothing();
        latestImageFirst();
        forgottenByRoad();
        leftByOtherTexts();
        status();
        statusAndImages();
        Kit.end("LimitTest");
    }

    private static DipLights withChanges(int many) {
        DipLights x = Kit.onRoad(ROAD);
        for (int i = 0; i < many; i++) {
            switch (i % 3) {
                case 0 -> Kit.due("41 change " + i, x.drives(i / 3 % 2, 1 + i % 2, i % 10), 1);
                case 1 -> Kit.due("42 change " + i, x.stands(i / 3 % 2, i, i % 10), 1);
                default -> Kit.due("43 change " + i, x.weather(i % 10, (i + 4) % 10), 1);
            }
        }
        return x;
    }

    private static void same(String what, DipLights got, DipLights want) {
        Kit.due(what, Say.difference(Say.all(got, false), Say.all(want, false)), "");
    }

    private static void twentyChanges() {
        for (int last = 0; last < 3; last++) {
            DipLights x = withChanges(19);
            Kit.due("48 nineteen", x.count(2), 19);
            int answer = last == 0 ? x.drives(1, 3, 9) : last == 1 ? x.stands(1, 19, 9) : x.weather(9, 9);
            Kit.due("41 the twentieth", answer, 1);
            Kit.due("48 twenty", x.count(2), 20);
            int want = last == 0 ? x.car(1, 2) : last == 1 ? x.coat(1, 1) : x.told(6);
            Kit.due("41 it is done", want, 9);
        }
    }

    private static void beyondTwenty() {
        String[] names = {"drives", "stands", "weather"};
        int[][] numbers = {{1, 3, 9}, {1, 19, 9}, {9, 9}};
        for (int i = 0; i < names.length; i++) {
            DipLights x = withChanges(20);
            Kit.due("41 there are 20: " + names[i], Say.call(x, names[i], numbers[i]), "0");
            Kit.due("41 there are 20: " + names[i], Say.call(x, names[i], numbers[i]), "0");
            Kit.due("48 twenty", x.count(2), 20);
            Kit.due("47 none is refused", Say.refusals(x), "0 0 0");
            same("41 nothing is done: " + names[i], x, withChanges(20));
        }
    }

    private static void refusedBeyondTwenty() {
        DipLights x = withChanges(20);
        Kit.argument("41 P", () -> x.drives(0, 4, 0));
        Kit.element("41 CAR", () -> x.drives(2, 4, 0));
        Kit.argument("42 X", () -> x.stands(0, 20, 0));
        Kit.element("42 COAT", () -> x.stands(2, 0, 0));
        Kit.argument("43 fog", () -> x.weather(10, 0));
        Kit.due("47 counted", Say.refusals(x), "2 3 0");
        same("41 nothing is done", x, withChanges(20));
    }

    private static void roomAgain() {
        DipLights x = withChanges(20);
        Kit.due("44 nineteen are left", x.undo(), 19);
        Kit.due("43 room for one", x.weather(7, 8), 1);
        Kit.due("43 and no more", x.weather(1, 1), 0);
        Kit.due("43 fog", x.told(5), 7);
        Kit.due("43 B", x.told(6), 8);
        for (int left = 19; left >= 0; left--) {
            Kit.due("44 undone", x.undo(), left);
        }
        same("44 as it was told", x, Kit.onRoad(ROAD));
    }

    private static void noneToUndo() {
        DipLights x = Kit.onRoad(ROAD);
        Kit.due("44 there is none", x.undo(), -1);
        Kit.due("44 there is none", x.undo(), -1);
        Kit.due("47 that is no refusal", Say.refusals(x), "0 0 0");
        same("44 all stays", x, Kit.onRoad(ROAD));
        DipLights fresh = new DipLights();
        Kit.due("44 of a new object", fresh.undo(), -1);
        Kit.due("43 without CLAUSES", fresh.weather(3, 5), 1);
        Kit.due("44 the one", fresh.undo(), 0);
        Kit.due("44 fog as it was", fresh.told(5), 0);
        Kit.due("44 B as it was", fresh.told(6), 4);
        Kit.due("44 none", fresh.undo(), -1);
    }

    /** Step by step back from 20: what holds is as with so many changes made. */
    private static void eachKindUndone() {
        for (int left = 19; left >= 0; left--) {
            DipLights x = withChanges(20);
            for (int i = 20; i > left; i--) {
                x.undo();
            }
            same("44 " + left + " changes", x, withChanges(left));
        }
    }

    private static void sameAgain() {
        DipLights x = Kit.onRoad(ROAD);
        Kit.due("41 P, TILT as they are", x.drives(0, 1, 0), 1);
        Kit.due("42 X, H as they are", x.stands(0, 8, 0), 1);
        Kit.due("43 fog, B as they are", x.weather(1, 2), 1);
        Kit.due("48 three changes", x.count(2), 3);
        Kit.due("44 two left", x.undo(), 2);
    }

    private static void threeImages() {
        DipLights x = Kit.onRoad(ROAD);
        for (int i = 1; i <= 3; i++) {
            Kit.due("45 so many", x.image(), i);
            Kit.due("48 so many", x.count(0), i);
            x.weather(i, 9 - i);
        }
        for (int i = 2; i >= 0; i--) {
            Kit.due("46 so many are left", x.restore(), i);
            Kit.due("48 so many", x.count(0), i);
            Kit.due("46 fog", x.told(5), i == 0 ? 1 : i);
            Kit.due("46 B", x.told(6), i == 0 ? 2 : 9 - i);
            Kit.due("46 changes", x.count(2), i);
        }
        Kit.due("46 there is none", x.restore(), -1);
    }

    private static DipLights withImages() {
        DipLights x = Kit.onRoad(ROAD);
        x.image();
        x.drives(0, 2, 3);
        x.image();
        x.stands(0, 3, 4);
        x.image();
        x.weather(5, 6);
        return x;
    }

    private static void beyondThree() {
        DipLights x = withImages();
        Kit.due("45 there are 3", x.image(), -1);
        Kit.due("45 there are 3", x.image(), -1);
        Kit.due("48 three", x.count(0), 3);
        Kit.due("47 that is no refusal", Say.refusals(x), "0 0 0");
        same("45 nothing is done", x, withImages());
        DipLights y = withImages();
        Kit.due("46 two are left", y.restore(), 2);
        Kit.due("45 room for one", y.image(), 3);
        Kit.due("45 and no more", y.image(), -1);
    }

    private static void noImage() {
        DipLights x = withChanges(5);
        Kit.due("46 there is none", x.restore(), -1);
        Kit.due("47 that is no refusal", Say.refusals(x), "0 0 0");
        Kit.due("48 changes stay", x.count(2), 5);
        same("46 nothing is done", x, withChanges(5));
        Kit.due("46 of a new object", new DipLights().restore(), -1);
    }

    /** An IMAGE keeps changes that can be undone, all 20 of them. */
    private static void imageOfTwenty() {
        DipLights x = withChanges(20);
        Kit.due("45 one", x.image(), 1);
        for (int i = 0; i < 20; i++) {
            x.undo();
        }
        for (int i = 0; i < 7; i++) {
            x.weather(9 - i, i);
        }
        Kit.due("46 none is left", x.restore(), 0);
        Kit.due("48 twenty", x.count(2), 20);
        Kit.due("43 there are 20", x.weather(1, 1), 0);
        same("46 all is as in the IMAGE", x, withChanges(20));
        DipLights y = withChanges(20);
        y.image();
        for (int i = 0; i < 20; i++) {
            y.undo();
        }
        y.restore();
        for (int left = 19; left >= 0; left--) {
            Kit.due("44 undone behind restore", y.undo(), left);
        }
        same("44 as it was told", y, Kit.onRoad(ROAD));
    }

    private static void imageKeepsEachNumber() {
        DipLights x = Kit.onRoad(ROAD);
        x.drives(0, 3, 4);
        x.drives(1, 1, 6);
        x.stands(0, 2, 7);
        x.stands(1, 11, 8);
        x.weather(3, 5);
        x.image();
        x.drives(0, 1, 1);
        x.drives(1, 2, 2);
        x.stands(0, 19, 3);
        x.stands(1, 18, 4);
        x.weather(8, 7);
        Kit.due("46 none is left", x.restore(), 0);
        List<Integer> got = List.of(x.car(0, 1), x.car(0, 2), x.car(1, 1), x.car(1, 2), x.coat(0, 0), x.coat(0, 1),
                x.coat(1, 0), x.coat(1, 1), x.told(5), x.told(6));
        Kit.due("46 each number", got.toString(), List.of(3, 4, 1, 6, 2, 7, 11, 8, 3, 5).toString());
    }

    private static void imageOfNothing() {
        DipLights x = new DipLights();
        Kit.due("45 of a new object", x.image(), 1);
        Kit.due("43 a change", x.weather(9, 0), 1);
        Kit.due("46 restored", x.restore(), 0);
        Kit.due("46 fog", x.told(5), 0);
        Kit.due("46 B", x.told(6), 4);
        Kit.due("46 no change can be undone", x.undo(), -1);
    }

    private static void latestImageFirst() {
        DipLights x = withImages();
        x.restore();
        Kit.due("46 the third: P", x.car(0, 1), 2);
        Kit.due("46 the third: X", x.coat(0, 0), 3);
        Kit.due("46 the third: fog", x.told(5), 1);
        x.restore();
        Kit.due("46 the second: P", x.car(0, 1), 2);
        Kit.due("46 the second: X", x.coat(0, 0), 8);
        x.restore();
        Kit.due("46 the first: P", x.car(0, 1), 1);
        Kit.due("46 the first: TILT", x.car(0, 2), 0);
    }

    private static void forgottenByRoad() {
        DipLights x = withImages();
        Kit.due("3 a FAULT", Kit.road(x, "fog 10;"), -8);
        Kit.due("3 IMAGES stay", x.count(0), 3);
        Kit.due("3 changes stay", x.count(2), 3);
        Kit.argument("3 refused", () -> x.road(1));
        Kit.due("3 IMAGES stay", x.count(0), 3);
        Kit.due("3 a ROAD", Kit.road(x, ROAD), 2);
        Kit.due("3 no IMAGES", x.count(0), 0);
        Kit.due("3 nothing to undo", x.count(2), 0);
        Kit.due("46 there is none", x.restore(), -1);
        Kit.due("44 there is none", x.undo(), -1);
        Kit.due("45 the first again", x.image(), 1);
        DipLights full = withChanges(20);
        Kit.road(full, ROAD);
        Kit.due("43 there is room", full.weather(3, 3), 1);
        Kit.due("44 the first", full.undo(), 0);
        same("44 as it was told", full, Kit.onRoad(ROAD));
    }

    private static void leftByOtherTexts() {
        DipLights x = withImages();
        Kit.law(x, "far");
        Kit.rule(x, 0, "1");
        Kit.rule(x, 1, "0");
        Kit.book(x, "1 1;2 1;");
        Kit.due("48 IMAGES stay", x.count(0), 3);
        Kit.due("48 changes stay", x.count(2), 3);
        Kit.due("44 undone", x.undo(), 2);
        Kit.due("44 undone", x.undo(), 1);
        Kit.due("44 undone", x.undo(), 0);
        for (int i = 0; i < 3; i++) {
            x.restore();
        }
        Kit.due("46 the LAW is as it was", x.at(0, 0, 3), 19);
        Kit.due("46 the RULE is as it was", x.at(0, 5, 1), 1);
        Kit.due("46 CAR 1's, too", x.at(1, 0, 1), 0);
        Kit.due("46 the BOOK is as it was", x.told(7), 2);
    }

    private static void status() {
        DipLights x = Kit.onRoad("car 20 1 0;");
        for (int i = 1; i <= 20; i++) {
            Kit.element("9 no such CAR", () -> x.car(1, 0));
            Kit.due("47 NoSuchElementException", Say.refusals(x), i + " " + (i - 1) + " " + (i - 1));
            Kit.argument("9 another what", () -> x.car(0, 4));
            Kit.due("47 IllegalArgumentException", Say.refusals(x), i + " " + i + " " + (i - 1));
            Kit.state("31 not two CARS", () -> x.right());
            Kit.due("47 IllegalStateException", Say.refusals(x), i + " " + i + " " + i);
        }
        Kit.due("47 NONE for others", x.status(3), -1);
        Kit.due("47 NONE for others", x.status(-1), -1);
    }

    private static void statusAndImages() {
        DipLights x = Kit.onRoad(ROAD);
        Kit.element("9 no such CAR", () -> x.car(2, 0));
        x.image();
        Kit.element("9 no such CAR", () -> x.car(2, 0));
        Kit.argument("8 another what", () -> x.told(10));
        x.weather(3, 3);
        x.undo();
        Kit.due("47 undo takes none back", Say.refusals(x), "2 1 0");
        x.restore();
        Kit.due("47 no IMAGE keeps it", Say.refusals(x), "2 1 0");
        Kit.road(x, ROAD);
        Kit.due("47 nor does a ROAD", Say.refusals(x), "2 1 0");
    }
}
