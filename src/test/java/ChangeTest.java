/** Promises 41 to 48: changes, IMAGES, and what is counted. */
public final class ChangeTest {
    private static final String ROAD = "length 20;coat 8 0;coat 15 2;blind 2;reach 10 3;car 40 1 0;car 20 2 5;";

    public static void main(String[] args) {
        drives();
        stands();
        weather();
        twenty();
        undo();
        images();
        imageKeepsTexts();
        counts();
        Kit.end("ChangeTest");
    }

    private static void drives() {
        DipLights x = Kit.onRoad(ROAD);
        Kit.due("41 tenths ahead", x.tenths(), 20);
        Kit.due("41 CAR 0 by 3", x.drives(0, 3, 9), 1);
        Kit.due("41 P", x.car(0, 1), 3);
        Kit.due("41 TILT", x.car(0, 2), 9);
        Kit.due("41 AGE is as it was", x.car(0, 0), 40);
        Kit.due("41 CAR 1 is as it was", x.car(1, 1), 2);
        Kit.due("41 the MEETING is another", x.tenths(), 10);
        Kit.due("41 P again", x.drives(0, 3, 9), 1);
        Kit.due("48 two changes", x.count(2), 2);
        Kit.argument("41 P 0", () -> x.drives(0, 0, 0));
        Kit.argument("41 P 4", () -> x.drives(0, 4, 0));
        Kit.argument("41 TILT 10", () -> x.drives(0, 1, 10));
        Kit.argument("41 TILT -1", () -> x.drives(0, 1, -1));
        Kit.element("41 no such CAR", () -> x.drives(2, 4, 0));
        Kit.element("41 no such CAR", () -> x.drives(-1, 1, 0));
        Kit.due("41 refused ones change nothing", x.count(2), 2);
    }

    private static void stands() {
        DipLights x = Kit.onRoad(ROAD);
        Kit.due("42 ahead", x.sees(0, 0), 8);
        Kit.due("42 elsewhere", x.stands(0, 19, 9), 1);
        Kit.due("42 X", x.coat(0, 0), 19);
        Kit.due("42 H", x.coat(0, 1), 9);
        Kit.due("42 the other one", x.coat(1, 0), 15);
        Kit.due("42 SEEN at another", x.sees(0, 0), 19);
        Kit.argument("42 X 20", () -> x.stands(0, 20, 0));
        Kit.argument("42 X -1", () -> x.stands(0, -1, 0));
        Kit.argument("42 H 10", () -> x.stands(0, 0, 10));
        Kit.argument("42 H -1", () -> x.stands(0, 0, -1));
        Kit.element("42 no such COAT", () -> x.stands(2, 20, 0));
        Kit.element("42 no such COAT", () -> x.stands(-1, 0, 0));
        Kit.due("48 one change", x.count(2), 1);
    }

    private static void weather() {
        DipLights x = Kit.onRoad(ROAD);
        Kit.due("43 SIGHT ahead", x.at(0, 0, 3), 10);
        Kit.due("43 fog 4, B 9", x.weather(4, 9), 1);
        Kit.due("43 fog", x.told(5), 4);
        Kit.due("43 B", x.told(6), 9);
        Kit.due("43 SIGHT", x.at(0, 0, 3), 6);
        Kit.due("43 blind", x.blinds(40), 11);
        Kit.argument("43 fog 10", () -> x.weather(10, 0));
        Kit.argument("43 fog -1", () -> x.weather(-1, 0));
        Kit.argument("43 B 10", () -> x.weather(0, 10));
        Kit.argument("43 B -1", () -> x.weather(0, -1));
        Kit.due("48 one change", x.count(2), 1);
        Kit.due("43 without CARS too", new DipLights().weather(1, 1), 1);
    }

    private static void twenty() {
        DipLights x = Kit.onRoad(ROAD);
        for (int i = 0; i < 20; i++) {
            Kit.due("43 change " + i, x.weather(i % 10, 1), 1);
        }
        Kit.due("43 there are 20", x.weather(3, 3), 0);
        Kit.due("42 there are 20", x.stands(0, 1, 1), 0);
        Kit.due("41 there are 20", x.drives(0, 1, 1), 0);
        Kit.due("43 nothing done", x.told(5), 9);
        Kit.due("42 nothing done", x.coat(0, 0), 8);
        Kit.due("41 nothing done", x.car(0, 2), 0);
        Kit.argument("43 refused all the same", () -> x.weather(10, 3));
        Kit.element("42 refused all the same", () -> x.stands(2, 1, 1));
        Kit.due("48 20", x.count(2), 20);
        Kit.due("44 one undone", x.undo(), 19);
        Kit.due("41 one more", x.drives(0, 2, 3), 1);
        Kit.due("41 and no more", x.drives(0, 1, 1), 0);
        for (int i = 19; i >= 0; i--) {
            Kit.due("44 undone", x.undo(), i);
        }
        Kit.due("44 all as told: fog", x.told(5), 0);
        Kit.due("44 all as told: B", x.told(6), 2);
        Kit.due("44 all as told: P", x.car(0, 1), 1);
        Kit.due("44 there is none", x.undo(), -1);
    }

    private static void undo() {
        DipLights x = Kit.onRoad(ROAD);
        x.drives(1, 3, 3);
        x.stands(1, 2, 3);
        x.weather(1, 2);
        x.drives(1, 1, 1);
        Kit.due("44 the latest", x.undo(), 3);
        Kit.due("44 P", x.car(1, 1), 3);
        Kit.due("44 TILT", x.car(1, 2), 3);
        Kit.due("44 fog", x.undo(), 2);
        Kit.due("44 fog", x.told(5), 0);
        Kit.due("44 the COAT", x.undo(), 1);
        Kit.due("44 X", x.coat(1, 0), 15);
        Kit.due("44 H", x.coat(1, 1), 2);
        Kit.due("44 the MEETING", x.tenths(), 20);
        Kit.due("44 the first", x.undo(), 0);
        Kit.due("44 P", x.car(1, 1), 2);
        Kit.due("44 TILT", x.car(1, 2), 5);
        Kit.due("44 passes", x.passes(), 7);
        Kit.due("44 none", x.undo(), -1);
    }

    private static void images() {
        DipLights x = Kit.onRoad(ROAD);
        Kit.due("46 there is none", x.restore(), -1);
        x.weather(1, 1);
        Kit.due("45 one", x.image(), 1);
        x.stands(0, 1, 1);
        x.drives(0, 3, 3);
        Kit.due("45 two", x.image(), 2);
        Kit.due("44 undone", x.undo(), 2);
        Kit.due("44 undone", x.undo(), 1);
        Kit.due("44 undone", x.undo(), 0);
        x.weather(9, 9);
        x.stands(1, 0, 0);
        Kit.due("45 three", x.image(), 3);
        Kit.due("45 there are 3", x.image(), -1);
        x.drives(1, 1, 0);
        Kit.due("46 the third", x.restore(), 2);
        Kit.due("46 P of CAR 1", x.car(1, 1), 2);
        Kit.due("46 X of the second", x.coat(1, 0), 0);
        Kit.due("48 changes", x.count(2), 2);
        Kit.due("46 the second", x.restore(), 1);
        Kit.due("46 fog", x.told(5), 1);
        Kit.due("46 B", x.told(6), 1);
        Kit.due("46 P", x.car(0, 1), 3);
        Kit.due("46 TILT", x.car(0, 2), 3);
        Kit.due("46 X", x.coat(0, 0), 1);
        Kit.due("46 X of the second", x.coat(1, 0), 15);
        Kit.due("46 the MEETING", x.tenths(), 10);
        x.image();
        x.drives(0, 1, 0);
        Kit.due("41 the MEETING", x.tenths(), 20);
        x.restore();
        Kit.due("46 the MEETING again", x.tenths(), 10);
        Kit.due("48 changes", x.count(2), 3);
        Kit.due("44 they can be undone", x.undo(), 2);
        Kit.due("44 P", x.car(0, 1), 1);
        Kit.due("44 the COAT", x.undo(), 1);
        Kit.due("44 X", x.coat(0, 0), 8);
        Kit.due("46 the first", x.restore(), 0);
        Kit.due("48 changes", x.count(2), 1);
        Kit.due("46 fog", x.told(5), 1);
        Kit.due("44 the first change", x.undo(), 0);
        Kit.due("44 fog", x.told(5), 0);
        Kit.due("46 none", x.restore(), -1);
    }

    private static void imageKeepsTexts() {
        DipLights x = Kit.onRoad(ROAD);
        x.image();
        Kit.law(x, "7");
        Kit.rule(x, 0, "0");
        Kit.book(x, "1 1;");
        Kit.element("47 refused", () -> x.car(2, 0));
        x.feed(1, 2, 3, 4, 5);
        x.restore();
        Kit.due("46 the LAW is none of it", x.at(0, 0, 3), 7);
        Kit.due("46 nor a RULE", x.at(0, 0, 1), 0);
        Kit.due("46 nor the BOOK", x.told(7), 1);
        Kit.due("46 nor the TAPE", x.count(1), 20);
        Kit.due("47 no IMAGE keeps it", x.status(0), 1);
    }

    private static void counts() {
        DipLights x = Kit.onRoad("car 20 1 0;");
        Kit.element("47", () -> x.car(1, 0));
        Kit.element("47", () -> x.coat(0, 9));
        Kit.argument("47", () -> x.told(10));
        Kit.state("47", () -> x.right());
        Kit.state("47", () -> x.distances());
        Kit.state("47", () -> x.paces(0));
        Kit.due("47 NoSuchElementException", x.status(0), 2);
        Kit.due("47 IllegalArgumentException", x.status(1), 1);
        Kit.due("47 IllegalStateException", x.status(2), 3);
        Kit.due("47 others", x.status(3), -1);
        Kit.due("47 others", x.status(-1), -1);
        Kit.due("47 FAULTS are no refusals", Kit.road(x, "fog;"), -9);
        Kit.due("47 FAULTS are no refusals", x.status(1), 1);
        x.road(0);
        Kit.due("47 a ROAD leaves it", x.status(0), 2);
        Kit.due("48 IMAGES", x.count(0), 0);
        x.image();
        x.image();
        Kit.due("48 IMAGES", x.count(0), 2);
        x.feed(0, 0, 0, 0, 0);
        x.feed(0, 0, 0, 0, 0);
        Kit.due("48 bytes", x.count(1), 40);
        x.weather(1, 1);
        Kit.due("48 changes", x.count(2), 1);
        Kit.due("48 others", x.count(3), -1);
        Kit.due("48 others", x.count(-1), -1);
        Kit.due("48 others are not refused", x.status(1), 1);
    }
}
