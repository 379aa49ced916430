/** Terms: FAULTS, which one and where. */
final class EdgesOfFaults {
    private static final String ROOM = "room r 1 1 1;";

    private EdgesOfFaults() { }

    static void hold() {
        theFirst();
        noToken();
        tooMuch();
        knots();
        toldAlready();
        notTold();
    }

    private static void theFirst() {
        Edge.holds(3, "Terms", "FAULTS, the first along the text (of one place the least), with its place:", () -> {
            Hall.dueFault("out 401;#", 2, 4);
            Hall.dueFault("#out 401;", 1, 0);
            Hall.dueFault("price 1;price 100;out 401;", 3, 8);
            Hall.dueFault("price 100;price 1;", 2, 6);
            Hall.dueFault("sun h 24 100;", 4, 4);
            Hall.dueFault("knob 31 h;", 2, 5);
            Hall.dueFault(ROOM + "person a h 41 6 24;", 4, 22);
            Hall.dueFault(ROOM + "room r 401 100 100;", 3, 18);
            // Of one place: what can't stand there, though it is too much or isn't told, too.
            Hall.dueFault("out 1 401;", 1, 6);
            Hall.dueFault("law lose 1 10000;", 1, 11);
            Hall.dueFault("law lose ((((((((1 (;", 1, 19);
            Hall.dueFault("law lose " + "not ".repeat(64) + ";", 1, 265);
            Hall.dueFault("law lose " + "1+".repeat(32) + ";", 1, 73);
            Hall.dueFault("law lose " + "not ".repeat(63) + "1 1;", 1, 263);
            Hall.dueFault("law lose " + "not ".repeat(63) + "1 not;", 1, 263);
            Hall.dueFault("law lose 1" + "+1".repeat(31) + "<1;", 2, 73);
            Hall.dueFault("law lose 1<1" + "+1".repeat(31) + ";", 2, 73);
            Hall.dueFault("law lose (1<1)" + "+1".repeat(30) + "<1<;", 2, 75);
            Hall.dueFault("law lose not 1<1" + "+1".repeat(30) + "<1;", 1, 76);
            Hall.dueFault(ROOM + "sun abcdefg 1 1;", 1, 17);
            Hall.dueFault("sun price 1 1;", 1, 4);
            // At the word of the LINE, whatever stands behind it.
            Hall.dueFault("price 1;price price;", 3, 8);
            Hall.dueFault("out 1;".repeat(8) + "out out;", 2, 48);
        });
    }

    private static void noToken() {
        Edge.holds(3, "Terms", "1 a TOKEN that is none (a word of more than 6 letters that isn't of the language, too) or can't stand there", () -> {
            Hall.dueFault("abcdefg", 1, 0);
            Hall.dueFault("persons r 1 1 1;", 1, 0);
            Hall.dueFault("out abcdefgh;", 1, 4);
            Hall.dueFault("out 1;rooms r 1 1 1;", 1, 6);
            Hall.dueFault("law lose warmest;", 1, 9);
            Hall.dueFault("law lose 1 andalso 1;", 1, 11);
            Hall.dueFault("out 1; \n ,", 1, 9);
            // The least one and the last one that is none, and one that has a letter's low bits.
            Hall.dueFault("" + (char) 0, 1, 0);
            Hall.dueFault("" + (char) 255, 1, 0);
            Hall.dueFault((char) ('o' + 128) + "ut 1;", 1, 0);
        });
        Edge.holds(3, "Terms", "(the length, if more must come).", () -> {
            String[] texts = {"r", "room", "room r", "room r 1", "room r 1 1", "room r 1 1 1", "out 1;law", "law lose",
                "law lose 1", "law lose 1+", "law lose (", "law lose (1", "law lose (1)", "law lose not", "law lose 1 <"};
            for (String text : texts) {
                int place = text.equals("r") ? 0 : text.length();
                Hall.dueFault(text, 1, place);
                Hall.dueFault(text + " ", 1, text.equals("r") ? 0 : place + 1);
                Hall.dueFault(text + " \n  ", 1, text.equals("r") ? 0 : place + 4);
            }
            // The length is that of the TEXT, not of the TAPE.
            KnobHall hall = new KnobHall();
            hall.feed(0x6f757420, 0x373b6f75, 0x7420383b, 0x6f757420, 0x393b2020);
            Hall.due("text(10)", hall.text(10), -1);
            Hall.due("fault(0)", hall.fault(0), 1);
            Hall.due("fault(1)", hall.fault(1), 10);
        });
    }

    private static void tooMuch() {
        Edge.holds(3, "Terms", "2 too much (at it): a number beyond what is said", () -> {
            String[] huge = {"1000000", "9999999", "2147483647", "2147483648", "2147483648000", "4294967296", "4294967300",
                "9223372036854775808", "18446744073709551616", "18446744073709551620", "9".repeat(60), "1" + "0".repeat(64)};
            for (String number : huge) {
                Hall.dueFault("out " + number + ";", 2, 4);
                Hall.dueFault("price " + number + ";", 2, 6);
                Hall.dueFault("law lose " + number + ";", 2, 9);
                Hall.dueFault(ROOM + "knob " + number + " r;", 2, 18);
                Hall.dueFault(ROOM + "person a r 1 " + number, 2, 26);
            }
            Hall.dueFault(ROOM + "knob 4 r;", 2, 18);
            Hall.dueFault(ROOM + "knob 0 r;", 2, 18);
        });
        Edge.holds(3, "Terms", "a sixth room and so on (at the word of the LINE)", () -> {
            String rooms = "room a 1 1 1;room b 1 1 1;room c 1 1 1;room d 1 1 1;room e 1 1 1;";
            String people = "person a a 1 1 1;person b a 1 1 1;person c a 1 1 1;person d a 1 1 1;person e a 1 1 1;";
            Hall.due("five of each", Hall.tell(new KnobHall(), rooms + people), 10);
            Hall.dueFault(rooms + "room f 1 1 1;", 2, 65);
            Hall.dueFault(rooms + "room a 1 1 1;", 2, 65);
            Hall.dueFault(rooms + " room #", 2, 66);
            Hall.dueFault(rooms + people + "person f a 1 1 1;", 2, 150);
            Hall.dueFault(rooms + people + "person", 2, 150);
            Hall.dueFault(rooms + people + "room", 2, 150);
            String suns = rooms + "sun a 1 1;sun b 1 1;sun c 1 1;sun d 1 1;";
            Hall.due("four suns", Hall.tell(new KnobHall(), suns), 9);
            Hall.dueFault(suns + "sun e 1 1;", 2, 105);
            Hall.dueFault(suns + "sun", 2, 105);
            Hall.due("eight weathers", Hall.tell(new KnobHall(), "out 1;".repeat(8)), 8);
            Hall.dueFault("out 1;".repeat(8) + "out 1;", 2, 48);
            Hall.dueFault("out 1;".repeat(8) + "out", 2, 48);
        });
        Edge.holds(3, "Terms", "a ninth '(' open", () -> {
            Hall.due("eight", Hall.tell(new KnobHall(), "law lose " + "(".repeat(8) + "1" + ")".repeat(8) + ";"), 1);
            Hall.dueFault("law lose " + "(".repeat(9) + "1" + ")".repeat(9) + ";", 2, 17);
            Hall.dueFault("law lose 1+" + "(1+".repeat(8) + "(1", 2, 35);
            Hall.due("closed ones don't count", Hall.tell(new KnobHall(),
                "law lose " + "(1)+".repeat(9) + "(".repeat(8) + "1" + ")".repeat(8) + ";"), 1);
            Hall.dueFault("law lose (1)+" + "(".repeat(9), 2, 21);
            Hall.due("seven and again one", Hall.tell(new KnobHall(),
                "law lose " + "(".repeat(7) + "(1)+(2)" + ")".repeat(7) + ";"), 1);
            Hall.due("those of another law don't count", Hall.tell(new KnobHall(),
                "law lose " + "(".repeat(8) + "1" + ")".repeat(8) + ";law turn " + "(".repeat(8) + "1" + ")".repeat(8) + ";"), 2);
            Hall.dueFault("law lose (1);law turn " + "(".repeat(9), 2, 30);
            // Nor do those that a text with a FAULT left open, and nothing is left of its signs.
            KnobHall hall = new KnobHall();
            Hall.due("a FAULT", Hall.tell(hall, "law lose 1 + not (2 * (3 < (((((1 + #"), -1);
            Hall.due("a FAULT", Hall.tell(hall, "law lose 1 + (2 * (3 < ((((((1 + #"), -1);
            Hall.due("eight then", Hall.tell(hall, "room h 1 1 1;law lose " + "(".repeat(8) + "7" + ")".repeat(8) + ";"), 2);
            Hall.due("its value", hall.law(0, 0), 7);
            Hall.tell(hall, "law lose 1 + ((2 #");
            Hall.due("one ')' too many then", Hall.tell(hall, "law lose 7);"), -1);
            Hall.due("its place", hall.fault(1), 10);
            Hall.tell(hall, "law lose not #");
            Hall.due("without that not", Hall.tell(hall, "room h 1 1 1;law lose 7;"), 2);
            Hall.due("its value", hall.law(0, 0), 7);
            Hall.tell(hall, "law lose 1 < #");
            Hall.due("a comparison then", Hall.tell(hall, "room h 1 1 1;law lose 2 < 3;"), 2);
            Hall.due("its value", hall.law(0, 0), 1);
        });
    }

    private static void knots(String text, int lines) {
        KnobHall hall = new KnobHall();
        Hall.due("text of '" + text + "'", Hall.tell(hall, text), lines);
        Hall.due("its knots", hall.count(2), 64);
    }

    private static void knots() {
        Edge.holds(3, "Terms", "a 65th KNOT of all E (N, NAMES, signs, not, and, or: one each)", () -> {
            knots("law lose not 1" + "+1".repeat(31) + ";", 1);
            Hall.dueFault("law lose 1" + "+1".repeat(32) + ";", 2, 73);
            Hall.dueFault("law lose not 1" + "+1".repeat(32) + ";", 2, 76);
            knots("law lose " + "not ".repeat(63) + "1;", 1);
            Hall.dueFault("law lose " + "not ".repeat(64) + "1;", 2, 265);
            Hall.dueFault("law lose " + "not ".repeat(65) + "1;", 2, 265);
            knots("law lose not warm" + "*set".repeat(31) + ";", 1);
            Hall.dueFault("law lose not warm" + "*set".repeat(32) + ";", 2, 17 + 31 * 4);
            knots("law lose not 1" + " and 1".repeat(31) + ";", 1);
            Hall.dueFault("law lose not 1" + " and 1".repeat(32) + ";", 2, 14 + 31 * 6 + 1);
            Hall.dueFault("law lose 1" + " or 1".repeat(32) + ";", 2, 10 + 31 * 5 + 4);
            Hall.dueFault("law lose not not 1" + " or 1".repeat(31) + ";", 2, 18 + 30 * 5 + 4);
            knots("law lose not 1<2" + " or 1<=2 and 3<>4".repeat(7) + " or 1=1;", 1);
            knots("law lose not 1" + "+1".repeat(30) + ";law turn 1;law cross 1;", 3);
            Hall.dueFault("law lose not 1" + "+1".repeat(30) + ";law turn 1;law cross 1+1;", 2, 97);
            Hall.dueFault("law lose not 1" + "+1".repeat(31) + ";law turn 1;", 2, 86);
            Hall.dueFault("law lose not 1" + "+1".repeat(31) + ";law turn (warm);", 2, 87);
            knots("law lose not ((((((((1))))))))" + "+(1)".repeat(31) + ";", 1);
            // All of them are worth something: 63 times not, in eight brackets.
            String nots = "(not ".repeat(8) + "not ".repeat(55) + "#" + ")".repeat(8) + ";";
            Hall.due("63 times not of 0", Hall.of("room h 1 1 1;law lose " + nots.replace("#", "0")).law(0, 0), 1);
            Hall.due("63 times not of 1", Hall.of("room h 1 1 1;law lose " + nots.replace("#", "1")).law(0, 0), 0);
            // Those of a text ahead, or of one with a FAULT, don't count.
            KnobHall again = new KnobHall();
            for (int i = 1; i < 5; i++) {
                Hall.due("time and again", Hall.tell(again, "room h 1 1 1;law turn 1;law lose " + i + "+1".repeat(31) + ";"), 3);
                Hall.due("its value", again.law(0, 0), i + 31);
            }
            KnobHall hall = Hall.of("law lose not 1" + "+1".repeat(31) + ";");
            Hall.due("one more", Hall.tell(hall, "law lose 1" + "+1".repeat(32) + ";"), -1);
            Hall.due("its KNOTS stay", hall.count(2), 64);
            Hall.due("a new text", Hall.tell(hall, "law turn not 1" + "+1".repeat(31) + ";"), 1);
            Hall.due("its knots", hall.count(2), 64);
        });
    }

    private static void toldAlready() {
        Edge.holds(3, "Terms", "3 told already: a name of its kind (at W), knob, price (at the word), a law of its LAW (at LAW).", () -> {
            Hall.dueFault(ROOM + "room s 1 1 1;room r 1 1 1;", 3, 31);
            Hall.dueFault(ROOM + "room s 1 1 1;room s", 3, 31);
            Hall.dueFault(ROOM + "person a r 1 1 1;person b r 1 1 1;person a r 1 1 1;", 3, 54);
            Hall.dueFault(ROOM + "person a r 1 1 1;person a x 1 1 1;", 3, 37);
            Hall.due("a room's name for a person", Hall.tell(new KnobHall(), ROOM + "person r r 1 1 1;"), 2);
            Hall.due("a person's name for a room", Hall.tell(new KnobHall(), ROOM + "person s r 1 1 1;room s 1 1 1;"), 3);
            Hall.due("names that begin alike", Hall.tell(new KnobHall(), "room a 1 1 1;room aa 1 1 1;room ab 1 1 1;"), 3);
            Hall.dueFault("room abcdef 1 1 1;room abcdef 1 1 1;", 3, 23);
            Hall.dueFault(ROOM + "knob 9 r;out 1;knob 9 r;", 3, 28);
            Hall.dueFault(ROOM + "knob 9 r;knob", 3, 22);
            Hall.dueFault("price 3;price 3;", 3, 8);
            Hall.dueFault("price 0;price", 3, 8);
            Hall.dueFault("law lose 1;law lose 1;", 3, 15);
            Hall.dueFault("law turn 1;law turn", 3, 15);
            Hall.dueFault("law cross 0;law cross #", 3, 16);
            Hall.due("each law once", Hall.tell(new KnobHall(), "law cross 0;law lose 0;law turn 0;"), 3);
            Hall.dueFault("law cross 0;law lose 0;law turn 0;law lose 0;", 3, 38);
            Hall.dueFault("law turn 0;law lose 0;law turn 0;", 3, 26);
            Hall.dueFault("law turn 0;law cross 0;law lose 0;law cross 0;", 3, 38);
            // What a text ahead told isn't told.
            KnobHall hall = Hall.of(ROOM + "person a r 1 1 1;knob 9 r;price 1;law lose 1;");
            Hall.due("again", Hall.tell(hall, ROOM + "person a r 1 1 1;knob 9 r;price 1;law lose 1;"), 5);
            Hall.due("a fault", Hall.tell(hall, ROOM + "person a r 1 1 1;knob 9 r;price 1;law lose 1;#"), -1);
            Hall.due("and again", Hall.tell(hall, ROOM + "person a r 1 1 1;knob 9 r;price 1;law lose 1;"), 5);
        });
    }

    private static void notTold() {
        Edge.holds(3, "Terms", "4 a ROOM that isn't told ahead (at W).", () -> {
            Hall.dueFault("person a r 1 1 1;" + ROOM, 4, 9);
            Hall.dueFault("sun r 1 1;" + ROOM, 4, 4);
            Hall.dueFault("knob 9 r;" + ROOM, 4, 7);
            Hall.dueFault(ROOM + "person a rr 1 1 1;", 4, 22);
            Hall.dueFault(ROOM + "person a r 1 1 1;sun a 1 1;", 4, 34);
            Hall.dueFault(ROOM + "person a r 1 1 1;person b a 1 1 1;", 4, 39);
            Hall.dueFault(ROOM + "knob 9 s;", 4, 20);
            Hall.due("told right ahead", Hall.tell(new KnobHall(), ROOM + "sun r 1 1;person a r 1 1 1;knob 9 r;"), 4);
            // Nor is one of a text ahead, or of one with a FAULT.
            KnobHall hall = Hall.of(ROOM);
            Hall.due("of a text ahead", Hall.tell(hall, "sun r 1 1;"), -1);
            Hall.due("its fault", hall.fault(0), 4);
            Hall.tell(hall, ROOM + "room s 1 1 1;#");
            Hall.due("of one with a FAULT", Hall.tell(hall, "sun s 1 1;"), -1);
            Hall.due("its fault", hall.fault(0), 4);
        });
    }
}
