/** Promises 1 to 10: a new object, the TAPE, the texts and their FAULTS, what they tell. */
public final class TextTest {
    public static void main(String[] args) {
        newObject();
        tape();
        roadReads();
        roadForgets();
        nothingIsLeft();
        roadFaults();
        tooMany();
        formulas();
        formulaFaults();
        formulaValues();
        books();
        bookFaults();
        faultPlaces();
        tellings();
        Kit.end("TextTest");
    }

    private static void newObject() {
        DipLights x = new DipLights();
        int[] want = {40, 0, 0, 0, 0, 0, 4, 0, 20, 6};
        for (int i = 0; i < want.length; i++) {
            Kit.due("1 told " + i, x.told(i), want[i]);
        }
        Kit.due("1 tenths", x.tenths(), 0);
        Kit.due("1 passes", x.passes(), -1);
        Kit.due("1 fault", x.fault(), -1);
        for (int i = 0; i < 3; i++) {
            Kit.due("1 count " + i, x.count(i), 0);
            Kit.due("1 status " + i, x.status(i), 0);
        }
    }

    private static void tape() {
        DipLights x = new DipLights();
        for (int i = 1; i <= 30; i++) {
            Kit.due("2 feed", x.feed(i, -1, 0, 7, 9), 20 * i);
        }
        Kit.due("2 feed beyond 600", x.feed(1, 2, 3, 4, 5), -1);
        Kit.due("2 nothing done", x.count(1), 600);
        DipLights y = new DipLights();
        y.feed(0x666f6720, 0x373b2020, 0x20202020, 0x20202020, 0x20202020);
        Kit.due("2 highest first", y.road(20), 0);
        Kit.due("2 fog 7;", y.told(5), 7);
        y.feed(0x666f6720, 0x373bff00, 0, 0, 0);
        Kit.due("2 a byte of 255", y.road(20), -9);
        Kit.due("2 its place", y.fault(), 6);
    }

    private static void roadReads() {
        DipLights x = new DipLights();
        Kit.due("3 no bytes", x.road(0), 0);
        Kit.argument("3 n below 0", () -> x.road(-1));
        Kit.argument("3 n above the TAPE", () -> x.road(1));
        Kit.feed(x, "car 30 1 2;");
        Kit.argument("3 n above the TAPE's 20", () -> x.road(21));
        Kit.due("3 it stays", x.count(1), 20);
        Kit.due("3 one CAR", x.road(11), 1);
        Kit.due("3 the TAPE is empty then", x.count(1), 0);
        Kit.due("3 refused", x.status(1), 3);
        Kit.due("3 no blanks needed", Kit.road(x, "car17 1 0;fog3;coat9 9;"), 1);
        Kit.due("3 fog", x.told(5), 3);
        Kit.due("3 blanks all over", Kit.road(x, "  length   12 ;  car 99  3 9 ;car 17 2 0  ;  "), 2);
        Kit.due("3 zeros ahead", Kit.road(x, "fog 00000000000000000008;"), 0);
        Kit.due("3 their fog", x.told(5), 8);
        Kit.due("3 the last counts", Kit.road(x, "fog 1;fog 2;blind 3;blind 0;reach 1 1;reach 40 20;"), 0);
        Kit.due("3 last fog", x.told(5), 2);
        Kit.due("3 last blind", x.told(6), 0);
        Kit.due("3 last reach", x.told(8), 40);
        Kit.due("3 last reach dipped", x.told(9), 20);
        Kit.due("3 only blanks", Kit.road(x, "     "), 0);
        Kit.due("3 all is as without", x.told(8), 20);
    }

    private static void roadForgets() {
        DipLights x = Kit.onRoad("car 30 1 2;car 30 1 2;coat 3 3;");
        Kit.due("3 law", Kit.law(x, "7"), 1);
        Kit.due("3 rule", Kit.rule(x, 0, "0"), 1);
        Kit.due("3 rule", Kit.rule(x, 1, "0"), 1);
        Kit.due("3 book", Kit.book(x, "1 1;"), 1);
        x.weather(3, 3);
        x.image();
        Kit.due("3 a FAULT", Kit.road(x, "car 30 1 2;fog 10;"), -8);
        Kit.due("3 all stays: fog", x.told(5), 3);
        Kit.due("3 all stays: COATS", x.told(2), 1);
        Kit.due("3 all stays: CARS", x.told(1), 2);
        Kit.due("3 all stays: BOOK", x.told(7), 1);
        Kit.due("3 all stays: LAW", x.at(0, 0, 3), 7);
        Kit.due("3 all stays: RULES", x.at(1, 0, 1), 0);
        Kit.due("3 all stays: IMAGES", x.count(0), 1);
        Kit.due("3 all stays: changes", x.count(2), 1);
        Kit.due("3 the TAPE does not", x.count(1), 0);
        Kit.due("3 again", Kit.road(x, "car 30 1 2;car 30 1 2;"), 2);
        Kit.due("3 no LAW", x.at(0, 0, 3), 20);
        Kit.due("3 no RULE 0", x.at(0, 0, 1), 1);
        Kit.due("3 no RULE 1", x.at(1, 0, 1), 1);
        Kit.due("3 no BOOK", x.told(7), 0);
        Kit.due("3 no COATS", x.told(2), 0);
        Kit.due("3 no IMAGES", x.restore(), -1);
        Kit.due("3 nothing to undo", x.undo(), -1);
        Kit.due("3 fog of its own", x.told(5), 0);
    }

    /** Every other text is read where the last but one was: nothing of that may be left. */
    private static void nothingIsLeft() {
        DipLights x = new DipLights();
        String full = "length 12;" + "bend 0;".repeat(3) + "bend 11;bend 3;bend 4;" + "wet 0 11;".repeat(4)
                + "coat 1 1;".repeat(10) + "fog 9;blind 9;reach 1 1;car 20 1 0;car 30 1 0;";
        int[] want = {40, 0, 0, 0, 0, 0, 4, 0, 20, 6};
        for (int i = 0; i < 4; i++) {
            Kit.due("3 a full ROAD", Kit.road(x, full), 2);
            Kit.due("8 bends", x.told(3), 4);
            Kit.due("8 wet", x.told(4), 12);
            Kit.due("8 COATS", x.told(2), 10);
            if (i > 1) {
                Kit.due("3 once more", Kit.road(x, full), 2);
            }
            Kit.due("3 an empty one", x.road(0), 0);
            for (int what = 0; what < want.length; what++) {
                Kit.due("8 told " + what + " of an empty one", x.told(what), want[what]);
            }
        }
        Kit.due("3 the least of each", Kit.road(x, "length 10;bend 0;wet 0 0;coat 0 0;fog 0;blind 0;reach 1 1;car 17 1 0;"), 1);
        Kit.due("3 the most of each", Kit.road(x, "length 60;bend 59;wet 59 59;coat 59 9;fog 9;blind 9;reach 40 20;"
                + "car 99 3 9;car 99 3 9;"), 2);
    }

    private static void faulty(String text, int kind, int place) {
        DipLights x = new DipLights();
        Kit.due("3 '" + text + "'", Kit.road(x, text), kind - 10);
        Kit.due("7 of '" + text + "'", x.fault(), place);
        Kit.due("3 all stays", x.told(0), 40);
    }

    private static void roadFaults() {
        faulty("length 9;", 2, 7);
        faulty("length 61;", 2, 7);
        faulty("length 99999999999999999999;", 2, 7);
        faulty("length 4294967316;", 2, 7);
        faulty("length 20;length 20;", 4, 10);
        faulty("fog 1; length 20;", 4, 7);
        faulty("length 12;bend 12;", 2, 15);
        faulty("length 12;wet 12 12;", 2, 14);
        faulty("length 12;wet 3 12;", 2, 16);
        faulty("wet 3 2;", 2, 6);
        faulty("length 12;coat 12 1;", 2, 15);
        faulty("coat 3 10;", 2, 7);
        faulty("blind 10;", 2, 6);
        faulty("reach 0 1;", 2, 6);
        faulty("reach 41 1;", 2, 6);
        faulty("reach 1 0;", 2, 8);
        faulty("reach 1 21;", 2, 8);
        faulty("car 16 1 1;", 2, 4);
        faulty("car 100 1 1;", 2, 4);
        faulty("car 20 0 1;", 2, 7);
        faulty("car 20 4 1;", 2, 7);
        faulty("car 20 1 10;", 2, 9);
        faulty("cars 20 1 1;", 1, 0);
        faulty("ca 20 1 1;", 1, 0);
        faulty("fogz 1;", 1, 0);
        faulty("afog 1;", 1, 0);
        faulty("fog 1;{", 1, 6);
        faulty("fog 1:", 1, 5);
        faulty("fog 1/", 1, 5);
        faulty("Car 20 1 1;", 1, 0);
        faulty(";", 1, 0);
        faulty("  7;", 1, 2);
        faulty("fog 1;;", 1, 6);
        faulty("fog;", 1, 3);
        faulty("fog -1;", 1, 4);
        faulty("fog 1 2;", 1, 6);
        faulty("fog 1x;", 1, 5);
        faulty("coat 1;", 1, 6);
        faulty("coat 1 1", 1, 8);
        faulty("coat 1   ", 1, 9);
        faulty("coat", 1, 4);
        faulty("co", 1, 0);
        faulty("fog\t1;", 1, 3);
        faulty("fog 1;\0", 1, 6);
    }

    private static void tooMany() {
        faulty("bend 1;".repeat(7), 3, 42);
        faulty("wet 1 1;".repeat(5), 3, 32);
        faulty("coat 1 1;".repeat(11), 3, 90);
        faulty("car 20 1 1;".repeat(3), 3, 22);
        faulty("car 20 1 1;".repeat(2) + "car", 3, 22);
        faulty("fog 1;".repeat(61), 3, 360);
        faulty("fog 1;".repeat(60) + "fig", 1, 360);
        faulty("fog 1;".repeat(60) + "length 20;", 3, 360);
        faulty("fog 1;".repeat(60) + ";", 1, 360);
        DipLights x = new DipLights();
        Kit.due("3 60 CLAUSES", Kit.road(x, "fog 1;".repeat(60)), 0);
        Kit.due("3 10 COATS", Kit.road(x, "coat 1 1;".repeat(10) + "bend 2;".repeat(6) + "wet 1 1;".repeat(4)), 0);
        Kit.due("8 10 COATS", x.told(2), 10);
        Kit.due("3 600 bytes", Kit.road(x, "fog 1;" + " ".repeat(594)), 0);
    }

    private static void formulas() {
        DipLights x = Kit.onRoad("car 30 1 2;");
        Kit.feed(x, "1".repeat(1) + " ".repeat(159));
        Kit.argument("4 n above 150", () -> x.law(151));
        Kit.argument("5 n above 150", () -> x.rule(0, 151));
        Kit.argument("6 n above 150", () -> x.book(151));
        Kit.argument("4 n below 0", () -> x.law(-1));
        Kit.argument("5 n below 0", () -> x.rule(1, -1));
        Kit.argument("6 n below 0", () -> x.book(-1));
        Kit.element("5 another CAR", () -> x.rule(2, 1));
        Kit.element("5 another CAR ahead of n", () -> x.rule(-1, 1000));
        Kit.due("5 the TAPE stays", x.count(1), 160);
        Kit.due("47 NoSuchElementException", x.status(0), 2);
        Kit.due("47 IllegalArgumentException", x.status(1), 6);
        Kit.due("4 150 bytes", x.law(150), 1);
        Kit.due("4 the TAPE is empty", x.count(1), 0);
        Kit.argument("4 n above the TAPE", () -> x.law(1));
        Kit.due("4 the LAW", x.at(0, 0, 3), 1);
        Kit.due("5 of a CAR that is not there", Kit.rule(x, 1, "0"), 1);
        Kit.due("5 of the one there", Kit.rule(x, 0, "0-0"), 1);
        Kit.due("5 it is above 0 only", x.at(0, 0, 1), 0);
        Kit.due("4 a FAULT", Kit.law(x, "2 2"), -9);
        Kit.due("4 all stays", x.at(0, 0, 3), 1);
        Kit.due("5 a FAULT", Kit.rule(x, 0, "1 1"), -9);
        Kit.due("5 all stays", x.at(0, 0, 1), 0);
    }

    private static void faultyFormula(String text, int kind, int place) {
        DipLights x = new DipLights();
        Kit.due("4 '" + text + "'", Kit.law(x, text), kind - 10);
        Kit.due("7 of '" + text + "'", x.fault(), place);
        Kit.due("5 '" + text + "'", Kit.rule(x, 1, text), kind - 10);
        Kit.due("7 of '" + text + "'", x.fault(), place);
    }

    private static void formulaFaults() {
        faultyFormula("", 1, 0);
        faultyFormula("   ", 1, 3);
        faultyFormula("1000", 2, 0);
        faultyFormula("1+1000000000000", 2, 2);
        faultyFormula("1 + ", 1, 4);
        faultyFormula("-1", 1, 0);
        faultyFormula("1 2", 1, 2);
        faultyFormula("far12", 1, 3);
        faultyFormula("12far", 1, 2);
        faultyFormula("fars", 1, 0);
        faultyFormula("farz", 1, 0);
        faultyFormula("bend", 1, 0);
        faultyFormula("(1", 1, 2);
        faultyFormula("1)", 1, 1);
        faultyFormula("()", 1, 1);
        faultyFormula("least(1,2)", 1, 5);
        faultyFormula("least[1]", 1, 7);
        faultyFormula("least[1,2", 1, 9);
        faultyFormula("most[1,2,3]", 1, 8);
        faultyFormula("most [ , 2 ]", 1, 7);
        faultyFormula("1,2", 1, 1);
        faultyFormula("1%2", 1, 1);
        faultyFormula("(((((((1", 3, 6);
        faultyFormula("least[1,most[1,((((least", 3, 19);
        faultyFormula("((((((most[1,2]))))))", 3, 6);
        faultyFormula("((((((mast[1,2]))))))", 1, 6);
        DipLights x = new DipLights();
        Kit.due("4 six open", Kit.law(x, "((((((1))))))+least[((((most[1,2])))),3]"), 1);
        Kit.due("4 many in a row", Kit.law(x, "(1)+(1)+(1)+(1)+(1)+(1)+(1)+(1)*(1)/(1)"), 1);
    }

    private static void value(String text, int want) {
        DipLights x = Kit.onRoad("car 30 1 2;");
        Kit.due("4 '" + text + "'", Kit.law(x, text), 1);
        Kit.due("4 value of '" + text + "'", x.at(0, 0, 3), want);
    }

    private static void formulaValues() {
        value("2+3*4", 14);
        value("(2+3)*4", 20);
        value("20-5-4", 11);
        value("20-(5-4)", 19);
        value("48/4/3", 4);
        value("48/(4/3)", 48);
        value("7/2", 3);
        value("(0-7)/2+10", 7);
        value("5/0", 0);
        value("5/0+3", 3);
        value("61", 60);
        value("60", 60);
        value("0-1", 0);
        value("least[9,4]", 4);
        value("most[9,4]", 9);
        value("most[least[9,4]+1,least[7,8]]*2", 14);
        value("999*999*999*999", 0);
        value("age", 30);
        value("pace", 1);
        value("tilt", 2);
        value("far/2", 49);
        value("met", 0);
        value("other", 0);
        value("mine", 1);
        value("reach", 20);
        value("wet+fog+blind+tenth", 0);
        // 999 to the fourth is 996005996001, of which 32 bits leave -426416671; by 999 cut -426843, again -427.
        value("0-999*999*999*999/999/999/10", 42);
    }

    private static void books() {
        DipLights x = Kit.onRoad("car 30 1 2;car 40 2 1;");
        Kit.due("6 three lines", Kit.book(x, " 5 1; 0 0 ;99 1; "), 3);
        Kit.due("8 lines", x.told(7), 3);
        Kit.due("6 a FAULT", Kit.book(x, "5 1;5 1;"), -8);
        Kit.due("6 all stays", x.told(7), 3);
        Kit.due("6 twelve", Kit.book(x, "0 1;1 1;2 1;3 1;4 1;5 1;6 1;7 1;8 1;9 1;10 1;11 1;"), 12);
        Kit.due("6 none", x.book(0), 0);
        Kit.due("8 no lines", x.told(7), 0);
    }

    private static void faultyBook(String text, int kind, int place) {
        DipLights x = new DipLights();
        Kit.due("6 '" + text + "'", Kit.book(x, text), kind - 10);
        Kit.due("7 of '" + text + "'", x.fault(), place);
    }

    private static void bookFaults() {
        String twelve = "0 1;1 1;2 1;3 1;4 1;5 1;6 1;7 1;8 1;9 1;10 1;11 1;";
        faultyBook("100 1;", 2, 0);
        faultyBook("1 2;", 2, 2);
        faultyBook("1 ;", 1, 2);
        faultyBook("1 1", 1, 3);
        faultyBook("1 1;1", 2, 4);
        faultyBook("1 1;01 1;", 2, 4);
        faultyBook("far 1;", 1, 0);
        faultyBook("1 1;;", 1, 4);
        faultyBook("11;", 1, 2);
        faultyBook(twelve + "12 1;", 3, 50);
        faultyBook(twelve + "11 1;", 2, 50);
        faultyBook(twelve + "100 1;", 2, 50);
        faultyBook(twelve + ";", 1, 50);
    }

    private static void faultPlaces() {
        DipLights x = new DipLights();
        Kit.due("7 none yet", x.fault(), -1);
        Kit.road(x, "fog;");
        Kit.due("7 of the ROAD", x.fault(), 3);
        Kit.argument("7 refused", () -> x.law(5));
        Kit.due("7 a refused call has no text", x.fault(), 3);
        Kit.law(x, "1+");
        Kit.due("7 of the LAW", x.fault(), 2);
        Kit.rule(x, 0, "1");
        Kit.due("7 a text without", x.fault(), -1);
        Kit.book(x, "1 1;1 1;");
        Kit.due("7 of the BOOK", x.fault(), 4);
        x.road(0);
        Kit.due("7 an empty ROAD", x.fault(), -1);
    }

    private static void tellings() {
        DipLights x = Kit.onRoad("length 30;bend 4;bend 4;bend 9;wet 3 5;wet 5 8;coat 7 2;coat 7 9;fog 5;blind 6;"
                + "reach 30 11;car 44 3 7;");
        Kit.book(x, "1 1;2 0;");
        int[] want = {30, 1, 2, 2, 6, 5, 6, 2, 30, 11};
        for (int i = 0; i < want.length; i++) {
            Kit.due("8 told " + i, x.told(i), want[i]);
        }
        Kit.argument("8 another what", () -> x.told(10));
        Kit.argument("8 another what", () -> x.told(-1));
        int[] car = {44, 3, 7, 0};
        for (int i = 0; i < car.length; i++) {
            Kit.due("9 car " + i, x.car(0, i), car[i]);
        }
        Kit.argument("9 another what", () -> x.car(0, 4));
        Kit.argument("9 another what", () -> x.car(0, -1));
        Kit.element("9 no such CAR", () -> x.car(1, 0));
        Kit.element("9 ahead of what", () -> x.car(-1, 9));
        Kit.due("10 X", x.coat(0, 0), 7);
        Kit.due("10 H", x.coat(0, 1), 2);
        Kit.due("10 H of the second", x.coat(1, 1), 9);
        Kit.argument("10 another what", () -> x.coat(0, 2));
        Kit.element("10 no such COAT", () -> x.coat(2, 0));
        Kit.element("10 ahead of what", () -> x.coat(-1, 2));
        Kit.road(x, "length 30;car 44 3 7;car 20 1 1;");
        Kit.due("9 CAR 1 begins at the end", x.car(1, 3), 29);
        Kit.due("9 AGE of CAR 1", x.car(1, 0), 20);
    }
}
