/**
 * The bounds of the four texts: the least and the greatest of every number, how many of everything there
 * may be, how long a text may be, where it may end, what may stand in it, and that a FAULT leaves all else
 * as it was and is no refusal. Values of formulas at the ends of 32 bits.
 */
public final class TextEdgeTest {
    public static void main(String[] args) {
        numbersOfRoad();
        numbersOfFormulas();
        numbersOfBook();
        lengthWithout();
        howManyOfEach();
        sixtyClauses();
        lengthAheadOfAll();
        twelveLines();
        noTenthTwice();
        sixOpen();
        leastOfOnePlace();
        firstFromTheLeft();
        endsTooEarly();
        nothingMore();
        whatCannotStand();
        numbersMissing();
        bytes();
        blanks();
        numbersAndWords();
        lengthsOfTexts();
        tapeIsFull();
        partOfTheTape();
        emptyTexts();
        faultOfTheLatest();
        forgotten();
        values();
        aboveZero();
        Kit.end("TextEdgeTest");
    }

    // ---- what is said of one text

    private static void scene(Object on) {
        Say.text(on, "road", "length 21;bend 3;wet 4 6;coat 8 0;coat 15 2;fog 1;blind 2;reach 12 4;car 40 1 0;car 20 2 5;");
        Say.text(on, "law", "(reach - fog) / (blind + 1) + mine");
        Say.text(on, "rule", "far - 7", 0);
        Say.text(on, "rule", "far - 9 + other", 1);
        Say.text(on, "book", "2 1;3 0;");
        Say.call(on, "weather", 2, 3);
        Say.call(on, "image");
        Say.call(on, "stands", 1, 14, 3);
    }

    private static String take(Object on, String name, String text) {
        if (name.startsWith("rule")) {
            return Say.text(on, "rule", text, name.charAt(4) - '0');
        }
        return Say.text(on, name, text);
    }

    /** The text has no FAULT; what holds then is as in the Model. */
    private static void taken(String name, String text, int want) {
        DipLights x = new DipLights();
        Model m = new Model();
        scene(x);
        scene(m);
        String what = name + " '" + text + "'";
        Kit.due(what, take(x, name, text), Integer.toString(want));
        Kit.due(what + " in the Model", take(m, name, text), Integer.toString(want));
        Kit.due("7 of " + what, x.fault(), -1);
        Kit.due("the TAPE is empty behind " + what, x.count(1), 0);
        Kit.due("no refusal: " + what, Say.refusals(x), "0 0 0");
        Kit.due("behind " + what, Say.difference(Say.all(x, false), Say.all(m, false)), "");
    }

    /** The text has a FAULT of a kind at a place; all stays but for the TAPE. */
    private static void faulty(String name, String text, int kind, int place) {
        DipLights x = new DipLights();
        DipLights twin = new DipLights();
        scene(x);
        scene(twin);
        String what = name + " '" + text + "'";
        Kit.due(what, take(x, name, text), Integer.toString(kind - 10));
        Kit.due("7 of " + what, x.fault(), place);
        Kit.due("the TAPE is empty behind " + what, x.count(1), 0);
        Kit.due("a FAULT is no refusal: " + what, Say.refusals(x), "0 0 0");
        Kit.due("all stays: " + what, Say.difference(Say.all(x, false), Say.all(twin, false)), "");
    }

    private static void bothTaken(String text) {
        taken("law", text, 1);
        taken("rule0", text, 1);
        taken("rule1", text, 1);
    }

    private static void bothFaulty(String text, int kind, int place) {
        faulty("law", text, kind, place);
        faulty("rule0", text, kind, place);
        faulty("rule1", text, kind, place);
    }

    // ---- numbers

    /** A number from low to high, between two parts of a text; want is the answer of a text without FAULT. */
    private static void number(String name, String ahead, int low, int high, String behind, int want) {
        taken(name, ahead + low + behind, want);
        taken(name, ahead + high + behind, want);
        taken(name, ahead + "0000000000000" + high + behind, want);
        if (low > 0) {
            faulty(name, ahead + (low - 1) + behind, 2, ahead.length());
            faulty(name, ahead + "0" + behind, 2, ahead.length());
        }
        faulty(name, ahead + (high + 1) + behind, 2, ahead.length());
        // Numbers that 32 bits, 64 bits would bring back into the range.
        faulty(name, ahead + (4294967296L + low) + behind, 2, ahead.length());
        faulty(name, ahead + (4294967296L + high) + behind, 2, ahead.length());
        faulty(name, ahead + "2147483648" + behind, 2, ahead.length());
        String beyond = java.math.BigInteger.TWO.pow(64).add(java.math.BigInteger.valueOf(high)).toString();
        faulty(name, ahead + beyond + behind, 2, ahead.length());
        faulty(name, ahead + high + "00000000000000000000" + behind, 2, ahead.length());
    }

    private static void numbersOfRoad() {
        number("road", "length ", 10, 60, ";", 0);
        number("road", "bend ", 0, 39, ";", 0);
        number("road", "wet ", 0, 39, " 39;", 0);
        number("road", "wet 5 ", 5, 39, ";", 0);
        number("road", "coat ", 0, 39, " 3;", 0);
        number("road", "coat 3 ", 0, 9, ";", 0);
        number("road", "fog ", 0, 9, ";", 0);
        number("road", "blind ", 0, 9, ";", 0);
        number("road", "reach ", 1, 40, " 3;", 0);
        number("road", "reach 3 ", 1, 20, ";", 0);
        number("road", "car ", 17, 99, " 1 1;", 1);
        number("road", "car 20 ", 1, 3, " 1;", 1);
        number("road", "car 20 1 ", 0, 9, ";", 1);
        // X, A, B are CELLS of the ROAD as it is, the shortest and the longest.
        number("road", "length 10;bend ", 0, 9, ";", 0);
        number("road", "length 60;bend ", 0, 59, ";", 0);
        number("road", "length 10;wet ", 0, 9, " 9;", 0);
        number("road", "length 60;wet ", 0, 59, " 59;", 0);
        number("road", "length 10;wet 4 ", 4, 9, ";", 0);
        number("road", "length 60;wet 0 ", 0, 59, ";", 0);
        number("road", "length 60;wet 59 ", 59, 59, ";", 0);
        number("road", "length 10;coat ", 0, 9, " 0;", 0);
        number("road", "length 60;coat ", 0, 59, " 9;", 0);
        // The second ones have the same bounds as the first.
        number("road", "car 20 1 1;car ", 17, 99, " 1 1;", 2);
        number("road", "car 20 1 1;car 20 ", 1, 3, " 1;", 2);
        number("road", "car 20 1 1;car 20 1 ", 0, 9, ";", 2);
        number("road", "fog 9;fog ", 0, 9, ";", 0);
    }

    private static void numbersOfFormulas() {
        for (String name : new String[] {"law", "rule0", "rule1"}) {
            number(name, "", 0, 999, "", 1);
            number(name, "far - ", 0, 999, "", 1);
            number(name, "2 * ", 0, 999, "+ far", 1);
            number(name, "least[", 0, 999, ",7]", 1);
            number(name, "most[7, ", 0, 999, "]", 1);
            number(name, "(((", 0, 999, ")))", 1);
        }
    }

    private static void numbersOfBook() {
        number("book", "", 0, 99, " 1;", 1);
        number("book", "5 ", 0, 1, ";", 1);
        number("book", "0 1;", 1, 99, " 0;", 2);
        number("book", "5 1;6 ", 0, 1, ";", 2);
    }

    private static void lengthWithout() {
        DipLights x = Kit.onRoad("bend 39;");
        Kit.due("3 40 without", x.told(0), 40);
        Kit.due("3 the last CELL of 40", x.told(3), 1);
        Kit.due("3 20 and 6 without", x.told(8) * 100 + x.told(9), 2006);
        Kit.due("3 fog 0 without", x.told(5), 0);
        Kit.due("3 blind 4 without", x.told(6), 4);
    }

    // ---- how many

    private static void atMost(String clause, int most, int what) {
        String all = clause.repeat(most);
        int wantCars = what == 1 ? most : 0;
        taken("road", all, wantCars);
        taken("road", all + "fog 1;", wantCars);
        faulty("road", all + clause, 3, all.length());
        faulty("road", all + "fog 1; " + clause, 3, all.length() + 7);
        // At its word, whatever stands behind it.
        String word = clause.substring(0, clause.indexOf(' '));
        faulty("road", all + word, 3, all.length());
        faulty("road", all + word + " 99;", 3, all.length());
        if (what >= 0) {
            DipLights x = Kit.onRoad(all);
            Kit.due("8 so many of '" + clause + "'", x.told(what), most);
        }
    }

    private static void howManyOfEach() {
        atMost("bend 1;", 6, -1);
        atMost("wet 2 2;", 4, -1);
        atMost("coat 3 3;", 10, 2);
        atMost("car 20 1 1;", 2, 1);
        DipLights x = Kit.onRoad("bend 1;bend 2;bend 3;bend 4;bend 5;bend 0;wet 0 0;wet 39 39;wet 5 6;wet 6 7;");
        Kit.due("8 six CELLS with a bend", x.told(3), 6);
        Kit.due("8 five wet CELLS", x.told(4), 5);
        // Full of all at once.
        taken("road", "length 60;" + "bend 9;".repeat(6) + "wet 8 9;".repeat(4) + "coat 7 7;".repeat(10)
                + "car 99 3 9;".repeat(2) + "fog 9;".repeat(37), 2);
    }

    private static void sixtyClauses() {
        taken("road", "fog 1;".repeat(60), 0);
        taken("road", "fog 1;".repeat(59) + "fog 7;" + "  ", 0);
        faulty("road", "fog 1;".repeat(61), 3, 360);
        faulty("road", "fog 1;".repeat(60) + " blind 2;", 3, 361);
        faulty("road", "fog 1;".repeat(60) + "bend 99;", 3, 360);
        taken("road", "length 11;" + "fog 1;".repeat(59), 0);
        faulty("road", "length 11;" + "fog 1;".repeat(60), 3, 364);
        taken("road", "car 20 1 1;" + "fog 1;".repeat(58) + "car 30 1 1;", 2);
        faulty("road", "car 20 1 1;" + "fog 1;".repeat(59) + "car 30 1 1;", 3, 365);
    }

    private static void lengthAheadOfAll() {
        taken("road", "length 12;", 0);
        taken("road", "   length 12;fog 1;", 0);
        faulty("road", "length 12;length 12;", 4, 10);
        faulty("road", "length 12; fog 1; length 12;", 4, 18);
        for (String first : new String[] {"bend 1;", "wet 1 1;", "coat 1 1;", "fog 1;", "blind 1;", "reach 1 1;", "car 20 1 1;"}) {
            faulty("road", first + "length 12;", 4, first.length());
            faulty("road", first + "length", 4, first.length());
            faulty("road", first + "length 9;", 4, first.length());
        }
        DipLights x = Kit.onRoad("length 12;");
        Kit.road(x, "fog 1;length 13;");
        Kit.due("3 a length too late changes none", x.told(0), 12);
    }

    private static void twelveLines() {
        String twelve = "0 1;1 1;2 1;3 1;4 1;5 1;6 1;7 1;8 1;9 1;10 1;11 1;";
        taken("book", twelve, 12);
        taken("book", twelve + "   ", 12);
        taken("book", twelve.substring(0, 45), 11);
        faulty("book", twelve + "12 1;", 3, 50);
        faulty("book", twelve + "  99", 3, 52);
        faulty("book", twelve + "12 7;", 3, 50);
        faulty("book", twelve + "100 1;", 2, 50);
        faulty("book", twelve + "0 1;", 2, 50);
        faulty("book", twelve + "x", 1, 50);
    }

    private static void noTenthTwice() {
        faulty("book", "7 1;7 1;", 2, 4);
        faulty("book", "7 1;7 0;", 2, 4);
        faulty("book", "7 1;8 1;0007 1;", 2, 8);
        faulty("book", "0 1;0", 2, 4);
        faulty("book", "99 1; 98 1; 99 1;", 2, 12);
        taken("book", "7 1;8 1;6 1;", 3);
    }

    private static void sixOpen() {
        bothTaken("((((((1))))))");
        bothFaulty("(((((((1)))))))", 3, 6);
        bothFaulty("((((((least[1,2]))))))", 3, 6);
        bothFaulty("((((((most[1,2]))))))", 3, 6);
        bothFaulty("(((((( (", 3, 7);
        bothFaulty("((((((least", 3, 6);
        bothTaken("least[1,least[2,least[3,least[4,least[5,least[6,7]]]]]]");
        bothFaulty("least[1,least[2,least[3,least[4,least[5,least[6,least[7,8]]]]]]]", 3, 48);
        bothTaken("most[most[most[most[most[most[6,7],1],1],1],1],1]");
        bothFaulty("most[most[most[most[most[most[(6),7],1],1],1],1],1]", 3, 30);
        bothFaulty("most[most[most[most[most[most[6,(7)],1],1],1],1],1]", 3, 32);
        // What is closed is open no more.
        bothTaken("(1)+(1)+(1)+(1)+(1)+(1)+(1)+(1)");
        bothTaken("(((((( 1 ))))))*((((((2))))))");
        bothTaken("(((((least[1,2]+most[3,4])))))");
        bothFaulty("(((((least[1,2]+most[(3),4])))))", 3, 21);
        bothTaken("least[(((((1)-1)-1)-1)),2]");
        faulty("law", "(1)+(((((((1)))))))", 3, 10);
    }

    private static void leastOfOnePlace() {
        // 1 and 3: no CLAUSE's word behind 60; 3 and 4: length as the 61st; 2 and 3: a T twice or 100 as the 13th.
        faulty("road", "fog 1;".repeat(60) + "fig 1;", 1, 360);
        faulty("road", "fog 1;".repeat(60) + "7", 1, 360);
        faulty("road", "fog 1;".repeat(60) + "length 20;", 3, 360);
        faulty("road", "fog 1;".repeat(59) + "length 20;", 4, 354);
        faulty("law", "((((((lest[1,2]))))))", 1, 6);
        faulty("law", "(((((([1,2]))))))", 1, 6);
        faulty("law", "((((((1000))))))", 2, 6);
    }

    private static void firstFromTheLeft() {
        faulty("road", "fog 10;bend 40;", 2, 4);
        faulty("road", "fog 10", 2, 4);
        faulty("road", "car 100 9 99", 2, 4);
        faulty("road", "car 20 9 99", 2, 7);
        faulty("road", "coat 40 10;", 2, 5);
        faulty("road", "fog 1 length", 1, 6);
        faulty("road", "coat 1 length 9;", 1, 7);
        faulty("road", "?length 9;", 1, 0);
        faulty("law", "1000 + + ((((((((", 2, 0);
        faulty("law", "1 + + 1000", 1, 4);
        faulty("book", "100 2", 2, 0);
        faulty("book", "1 2;1 2;", 2, 2);
    }

    // ---- where a text may end, what may stand in it

    /** Cut behind each piece but those that end the text well: FAULT 1 at the length, blanks behind or not. */
    private static void cut(String name, String[] pieces, String ends) {
        StringBuilder text = new StringBuilder();
        for (int i = 0; i < pieces.length; i++) {
            text.append(i == 0 ? "" : " ").append(pieces[i]);
            if (ends.charAt(i) == 'x') {
                faulty(name, text.toString(), 1, text.length());
                faulty(name, text + "   ", 1, text.length() + 3);
            } else {
                taken(name, text.toString(), name.equals("book") ? (i + 1) / 3 : name.equals("road") ? 0 : 1);
            }
        }
    }

    private static void endsTooEarly() {
        cut("road", "length 12 ; bend 3 ; wet 4 5 ; coat 6 7 ; fog 8 ; blind 9 ; reach 3 2 ;".split(" "),
                "xx." + "xx." + "xxx." + "xxx." + "xx." + "xx." + "xxx.");
        faulty("road", "car", 1, 3);
        faulty("road", "car 20", 1, 6);
        faulty("road", "car 20 1", 1, 8);
        faulty("road", "car 20 1 1", 1, 10);
        faulty("road", "car 20 1 1   ", 1, 13);
        faulty("road", "car 20 1 1;car 20 1 1", 1, 21);
        for (String name : new String[] {"law", "rule0", "rule1"}) {
            cut(name, "1 + reach - far * 2 / age".split(" "), ".x.x.x.x.");
            cut(name, "least [ 1 , mine ] - most [ fog , 2 ]".split(" "), "xxxxx.xxxxxx.");
            cut(name, "( ( blind ) + wet ) * ( 2 )".split(" "), "xxxxxx.xxx.");
            faulty(name, "", 1, 0);
            faulty(name, "     ", 1, 5);
        }
        cut("book", "5 1 ; 6 0 ; 7 1 ;".split(" "), "xx.xx.xx.");
    }

    private static void nothingMore() {
        bothFaulty("1 1", 1, 2);
        bothFaulty("1;", 1, 1);
        bothFaulty("far 12", 1, 4);
        bothFaulty("12 far", 1, 3);
        bothFaulty("(1))", 1, 3);
        bothFaulty("(1)(1)", 1, 3);
        bothFaulty("least[1,2]]", 1, 10);
        bothFaulty("1]", 1, 1);
        bothFaulty("1,", 1, 1);
        bothFaulty("1 \0", 1, 2);
        bothTaken("1   ");
        bothTaken("   far");
    }

    /** Another sign in the place of each piece: FAULT 1 at it. */
    private static void whatCannotStand() {
        String[] clauses = {"length 12 ;", "bend 3 ;", "wet 4 5 ;", "coat 6 7 ;", "fog 8 ;", "blind 9 ;", "reach 3 2 ;", "car 20 1 1 ;"};
        for (String clause : clauses) {
            for (int at = 0; at >= 0 && at < clause.length(); at = next(clause, at)) {
                faulty("road", clause.substring(0, at) + "?" + clause.substring(at), 1, at);
                String piece = clause.substring(at, clause.indexOf(' ', at) < 0 ? clause.length() : clause.indexOf(' ', at));
                boolean number = Character.isDigit(piece.charAt(0));
                String other = number ? "fog" : "7";
                faulty("road", clause.substring(0, at) + other + clause.substring(at + piece.length()), 1, at);
            }
        }
        bothFaulty("+ 1", 1, 0);
        bothFaulty("* 1", 1, 0);
        bothFaulty("1 + - 1", 1, 4);
        bothFaulty("1 - * 1", 1, 4);
        bothFaulty("1 * / 1", 1, 4);
        bothFaulty("( )", 1, 2);
        bothFaulty("( + 1)", 1, 2);
        bothFaulty("[1]", 1, 0);
        bothFaulty("least", 1, 5);
        bothFaulty("least (1,2)", 1, 6);
        bothFaulty("least 1,2", 1, 6);
        bothFaulty("most [ ] ", 1, 7);
        bothFaulty("most [ 1 ; 2 ]", 1, 9);
        bothFaulty("most [ 1 , ] ", 1, 11);
        bothFaulty("most [ 1 , 2 )", 1, 13);
        bothFaulty("( 1 ]", 1, 4);
        bothFaulty("length", 1, 0);
        bothFaulty("coat", 1, 0);
        faulty("book", "? 1;", 1, 0);
        faulty("book", "1 ? ;", 1, 2);
        faulty("book", "1 1 ?", 1, 4);
        faulty("book", "1 1 2;", 1, 4);
        faulty("book", "far 1;", 1, 0);
        faulty("book", "1 mine;", 1, 2);
        faulty("book", "-1 1;", 1, 0);
        faulty("book", "1,1;", 1, 1);
    }

    /** A CLAUSE with a number too few: what stands in its place, ";" among it, can't; a wrong one comes first. */
    private static void numbersMissing() {
        String[] missing = {"length ;", "bend ;", "wet ;", "wet 4 ;", "coat ;", "coat 6 ;", "fog ;", "blind ;", "reach ;",
            "reach 3 ;", "car ;", "car 20 ;", "car 20 1 ;"};
        for (String clause : missing) {
            faulty("road", clause, 1, clause.length() - 1);
            faulty("road", clause + "car 20 1 1;", 1, clause.length() - 1);
            faulty("road", clause.replace(" ;", " fog 1;"), 1, clause.length() - 1);
        }
        faulty("road", "car 2 1;", 2, 4);
        faulty("road", "car 2 1 1;", 2, 4);
        faulty("road", "car 20 7;", 2, 7);
        faulty("road", "reach 41;", 2, 6);
        faulty("road", "coat 40;", 2, 5);
        faulty("road", "wet 40;", 2, 4);
        faulty("book", "5 ;", 1, 2);
        faulty("book", ";", 1, 0);
        faulty("book", "5 7;", 2, 2);
        faulty("book", "100;", 2, 0);
    }

    private static int next(String text, int from) {
        int blank = text.indexOf(' ', from);
        return blank < 0 ? -1 : blank + 1;
    }

    /** Every byte but those that can stand there, the neighbours of digits and letters among them. */
    private static void bytes() {
        for (int one = 0; one < 256; one++) {
            char sign = (char) one;
            boolean word = sign >= 'a' && sign <= 'z';
            boolean digit = sign >= '0' && sign <= '9';
            DipLights x = new DipLights();
            if (sign != ' ') {
                Kit.due("3 byte " + one + " at the begin", Kit.road(x, sign + " 1;"), -9);
                Kit.due("7 byte " + one + " at the begin", x.fault(), 0);
            }
            int want = digit ? -8 : sign == ';' || sign == ' ' ? 0 : -9;
            if (sign == ' ') {
                Kit.due("3 a blank behind a number", Kit.road(x, "fog 1 ;"), 0);
            } else if (sign != ';') {
                Kit.due("3 byte " + one + " behind a number", Kit.road(x, "fog 1" + sign + ";"), want);
                Kit.due("7 byte " + one + " behind a number", x.fault(), digit ? 4 : 5);
            }
            if (!word && !digit && sign != ' ') {
                Kit.due("3 byte " + one + " behind a word", Kit.road(x, "fog" + sign + "1;"), -9);
                Kit.due("7 byte " + one + " behind a word", x.fault(), 3);
            } else if (word) {
                Kit.due("3 letter " + one + " behind a word", Kit.road(x, "fog" + sign + "1;"), -9);
                Kit.due("7 letter " + one + " behind a word", x.fault(), 0);
            }
        }
    }

    private static void blanks() {
        String spaced = "  length  12  ;  bend  3  ;  wet  4  5  ;  coat  6  7  ;  fog  8  ;  blind  9  ;  reach  3  2  ;  car  20  1  1  ;  ";
        taken("road", spaced, 1);
        taken("road", "length12;bend3;wet4 5;coat6 7;fog8;blind9;reach3 2;car20 1 1;", 1);
        bothTaken("  least  [  1  ,  far  ]  *  (  2  )  -  3  ");
        bothTaken("least[1,far]*(2)-3");
        taken("book", "  5  1  ;  6  0  ;  ", 2);
        taken("book", "5 1;6 0;", 2);
        taken("road", "   ", 0);
        taken("book", "   ", 0);
        faulty("road", "fo g 1;", 1, 0);
        faulty("road", "fog 0 9;", 1, 6);
        faulty("road", "fog 1; ;", 1, 7);
        faulty("book", "5 1; ;", 1, 5);
        // The blank is 32 alone.
        faulty("road", "fog\t1;", 1, 3);
        faulty("road", "fog 1;\n", 1, 6);
        faulty("law", "1 +\u00a02", 1, 3);
        faulty("book", "5\n1;", 1, 1);
    }

    private static void numbersAndWords() {
        faulty("road", "fogfog 1;", 1, 0);
        faulty("road", "f 1;", 1, 0);
        faulty("road", "lengt 12;", 1, 0);
        faulty("road", "lengths 12;", 1, 0);
        faulty("road", "Fog 1;", 1, 0);
        faulty("road", "fOg 1;", 1, 0);
        faulty("law", "farfar", 1, 0);
        faulty("law", "far1", 1, 3);
        faulty("law", "leastmost[1,2]", 1, 0);
        faulty("law", "least1[1,2]", 1, 5);
        faulty("law", "teh", 1, 0);
        faulty("book", "51;", 1, 2);
        bothTaken("00000000000000000000000000000000000007");
        taken("book", "0000000000000000000000007 000001;", 1);
    }

    // ---- how long

    private static void lengthsOfTexts() {
        String[] names = {"law", "rule0", "rule1", "book"};
        for (String name : names) {
            String text = name.equals("book") ? "5 1;" : "far-8";
            taken(name, text + " ".repeat(150 - text.length()), 1);
            taken(name, " ".repeat(150 - text.length()) + text, 1);
            for (int n : new int[] {151, 160, 161, 200}) {
                DipLights x = new DipLights();
                DipLights twin = new DipLights();
                scene(x);
                scene(twin);
                Say.feed(x, text + " ".repeat(155));
                int fed = x.count(1);
                Kit.due("4 " + name + " of " + n, name.startsWith("rule")
                        ? Say.call(x, "rule", name.charAt(4) - '0', n) : Say.call(x, name, n), Say.ARGUMENT);
                Kit.due("4 the TAPE stays", x.count(1), fed);
                Kit.due("4 counted", Say.refusals(x), "0 1 0");
                Kit.due("4 all stays", Say.difference(Say.all(x, false), Say.all(twin, false)), "");
            }
        }
        taken("road", " ".repeat(594) + "fog 7;", 0);
        taken("road", "fog 7;" + " ".repeat(594), 0);
        faulty("road", " ".repeat(595) + "fog 7", 1, 600);
        faulty("law", " ".repeat(149) + "+", 1, 149);
        faulty("law", "1" + " ".repeat(148) + "1", 1, 149);
        faulty("law", " ".repeat(150), 1, 150);
    }

    private static void tapeIsFull() {
        DipLights x = new DipLights();
        Kit.feed(x, "fog 7;" + " ".repeat(594));
        Kit.due("2 they stand", x.count(1), 600);
        for (int i = 0; i < 3; i++) {
            Kit.due("2 more than 600", x.feed(0x3f3f3f3f, 0x3f3f3f3f, 0x3f3f3f3f, 0x3f3f3f3f, 0x3f3f3f3f), -1);
            Kit.due("2 nothing done", x.count(1), 600);
        }
        Kit.due("2 no refusal", Say.refusals(x), "0 0 0");
        Kit.argument("3 601", () -> x.road(601));
        Kit.due("3 it stays", x.count(1), 600);
        Kit.due("3 as it was fed", x.road(600), 0);
        Kit.due("3 fog 7", x.told(5), 7);
        Kit.due("2 there is room again", x.feed(0x20202020, 0x20202020, 0x20202020, 0x20202020, 0x20202020), 20);
        DipLights y = new DipLights();
        for (int i = 1; i <= 30; i++) {
            Kit.due("2 how many there are", y.feed(0, 0, 0, 0, 0), 20 * i);
        }
        // Of each number the highest byte first, bytes above 127 too.
        DipLights z = new DipLights();
        z.feed(0x666f6739, 0x3bfffefd, 0x80000001, -1, 0);
        Kit.due("2 'fog9;' of 20", z.road(5), 0);
        Kit.due("2 fog 9", z.told(5), 9);
    }

    private static void partOfTheTape() {
        DipLights x = new DipLights();
        Kit.feed(x, "fog 7;fog 8;fog 9;");
        Kit.due("3 the first 12 bytes alone", x.road(12), 0);
        Kit.due("3 fog 8", x.told(5), 8);
        Kit.due("3 the rest is gone", x.count(1), 0);
        Kit.argument("3 the rest is gone", () -> x.road(1));
        Kit.feed(x, "fog 12;");
        Kit.due("3 cut in a number", x.road(5), -9);
        Kit.due("7 at the length", x.fault(), 5);
        Kit.feed(x, "fog 12;");
        Kit.due("3 cut in a word", x.road(2), -9);
        Kit.due("7 at the word", x.fault(), 0);
        Kit.feed(x, "fog 1;");
        Kit.feed(x, "fog 2;");
        Kit.due("2 40 bytes", x.count(1), 40);
        Kit.due("3 zeros behind the first six", x.road(40), -9);
        Kit.due("7 at the first zero", x.fault(), 6);
        Kit.feed(x, "fog 1;              fog 2;");
        Kit.due("3 what was fed first comes first", x.road(26), 0);
        Kit.due("3 the last counts", x.told(5), 2);
    }

    private static void emptyTexts() {
        taken("road", "", 0);
        taken("book", "", 0);
        faulty("law", "", 1, 0);
        faulty("rule0", "", 1, 0);
        faulty("rule1", "", 1, 0);
        DipLights x = Kit.onRoad("car 20 1 1;car 20 1 1;");
        Kit.feed(x, "fog 1;");
        Kit.due("3 n 0 of a full TAPE", x.road(0), 0);
        Kit.due("3 it is empty then", x.count(1), 0);
        Kit.due("3 a ROAD without CLAUSES", x.told(1), 0);
    }

    private static void faultOfTheLatest() {
        DipLights x = new DipLights();
        Kit.due("7 NONE without a text", x.fault(), -1);
        Kit.law(x, "1 + ?");
        Kit.due("7 of the latest", x.fault(), 4);
        Kit.rule(x, 1, "?");
        Kit.due("7 of the latest", x.fault(), 0);
        Kit.book(x, "1 1;1 1;");
        Kit.due("7 of the latest", x.fault(), 4);
        Kit.road(x, "fog 10;");
        Kit.due("7 of the latest", x.fault(), 4);
        Kit.element("5 refused", () -> x.rule(2, 0));
        Kit.argument("3 refused", () -> x.road(1));
        x.feed(0x31202020, 0, 0, 0, 0);
        x.undo();
        x.restore();
        Kit.due("7 of the latest text", x.fault(), 4);
        Kit.due("5 '1'", x.rule(0, 1), 1);
        Kit.due("7 NONE without a FAULT", x.fault(), -1);
        Kit.due("47 two refusals", Say.refusals(x), "1 1 0");
    }

    /** A new ROAD: no LAW, RULES, BOOK, IMAGES, nothing to undo; refusals are counted on. */
    private static void forgotten() {
        DipLights x = new DipLights();
        scene(x);
        Kit.element("9 refused", () -> x.car(2, 0));
        Kit.argument("8 refused", () -> x.told(10));
        Kit.due("3 the same ROAD", Kit.road(x, "car 20 1 0;car 20 1 0;coat 5 0;"), 2);
        DipLights y = Kit.onRoad("car 20 1 0;car 20 1 0;coat 5 0;");
        Kit.due("3 as on a new object", Say.difference(Say.all(x, false), Say.all(y, false)), "");
        DipLights z = new DipLights();
        scene(z);
        Kit.element("9 refused", () -> z.car(2, 0));
        Kit.argument("8 refused", () -> z.told(10));
        Kit.road(z, "car 20 1 0;");
        Kit.due("47 counted on", Say.refusals(z), "1 1 0");
        Kit.state("18 one CAR", () -> z.right());
        Kit.due("47 counted on", Say.refusals(z), "1 1 1");
        Kit.due("1 as a ROAD without CLAUSES", Say.difference(Say.all(new DipLights(), true), Say.all(emptyRoad(), true)), "");
    }

    private static DipLights emptyRoad() {
        DipLights x = new DipLights();
        scene(x);
        x.road(0);
        return x;
    }

    // ---- values

    /** What comes out, as a SIGHT in TENTH 0 of a CAR alone, and as would has it. */
    private static void value(String text, int want) {
        DipLights x = Kit.onRoad("car 20 1 0;");
        Kit.due("4 '" + text + "'", Kit.law(x, text), 1);
        Kit.due("12 SIGHT by '" + text + "'", x.at(0, 0, 3), want);
        Kit.due("17 SIGHT by '" + text + "'", x.would(0, 0, 20, 0), want);
    }

    private static void values() {
        value("0", 0);
        value("0-1", 0);
        value("0-999", 0);
        value("59", 59);
        value("60", 60);
        value("61", 60);
        value("999", 60);
        // 2 to the 31st is 256*256*256*128: it wraps to the least number, and one less of it to the greatest.
        value("256*256*256*128", 0);
        value("256*256*256*128-1", 60);
        value("256*256*256*127+256*256*255+256*255+255", 60);
        value("256*256*256*127+256*256*255+256*255+255+1", 0);
        value("(256*256*256*128-1)/999/999/999", 2);
        value("5+256*256*256*128/999/999/999", 3);
        value("0-256*256*256*128", 0);
        value("7+(0-256*256*256*128)/999/999/999", 5);
        value("256*256*256*256", 0);
        value("256*256*256*256+9", 9);
        value("256*256*256*255*256*3+11", 11);
        // The least number by -1 is itself.
        value("256*256*256*128/(0-1)", 0);
        value("5+256*256*256*128/(0-1)/999/999/999", 3);
        // / cuts, whatever the signs.
        value("7/2", 3);
        value("10+(0-7)/2", 7);
        value("10+7/(0-2)", 7);
        value("(0-7)/(0-2)", 3);
        value("10+(0-1)/2", 10);
        value("1/2", 0);
        // By 0 it is 0.
        value("7/0", 0);
        value("0/0", 0);
        value("9+7/0", 9);
        value("9+7/(3-3)*5", 9);
        value("9-(0-7)/0", 9);
        value("256*256*256*128/0+4", 4);
        value("least[3,3]", 3);
        value("most[3,3]", 3);
        value("most[0-3,0-5]+9", 6);
        value("least[0-3,0-5]+9", 4);
        value("most[256*256*256*128,5]", 5);
        value("least[256*256*256*128-1,5]", 5);
        value("least[256*256*256*128,5]+256*256*256*128+5", 5);
        value("2*3+4*5-6/2", 23);
        value("2+3*4/5*6", 14);
        value("30-10-5-1", 14);
        value("48/4*3/2", 18);
    }

    /** His beams are full, if it is above 0. */
    private static void rule(String text, int want) {
        for (int car = 0; car < 2; car++) {
            DipLights x = Kit.onRoad("car 20 1 0;car 20 1 0;");
            Kit.due("5 '" + text + "'", Kit.rule(x, car, text), 1);
            Kit.due("12 beams by '" + text + "'", x.at(car, 0, 1), want);
        }
    }

    private static void aboveZero() {
        rule("0", 0);
        rule("1", 1);
        rule("0-1", 0);
        rule("1-1", 0);
        rule("999", 1);
        rule("1/2", 0);
        rule("256*256*256*128", 0);
        rule("256*256*256*128-1", 1);
        rule("256*256*256*256", 0);
        rule("256*256*256*256+1", 1);
        rule("5/0", 0);
    }
}
