/** Terms: what a TEXT is, and its limits. */
final class EdgesOfTerms {
    private static final String[] LANGUAGE = {"room", "person", "sun", "out", "knob", "price", "law", "lose", "turn", "cross",
        "or", "and", "not", "warm", "outer", "felt", "wish", "set", "leak", "hour"};
    private static final String ROOM = "room r 1 1 1;";

    private EdgesOfTerms() { }

    static void hold() {
        lines();
        lawsOfThree();
        words();
        numbers();
        blanks();
        formulas();
        signs();
        rooms();
        people();
        suns();
        weathers();
        knobAndPrice();
        numbered();
    }

    private static void good(String text, int lines) {
        Hall.due("text of '" + text + "'", Hall.tell(new KnobHall(), text), lines);
    }

    private static boolean isOf(String words, String word) {
        return (" " + words + " ").contains(" " + word + " ");
    }

    private static void lines() {
        Edge.holds(3, "Terms", "A TEXT: { LINE ';' }.", () -> {
            good("", 0);
            good(" \n\n ", 0);
            good("out 1;", 1);
            good("\nout 1\n;\n", 1);
            Hall.dueFault("out 1", 1, 5);
            Hall.dueFault(";", 1, 0);
            Hall.dueFault(" ;", 1, 1);
            Hall.dueFault("out 1;;", 1, 6);
            Hall.dueFault("out 1;out 1", 1, 11);
            Hall.dueFault("out 1,", 1, 5);
            StringBuilder most = new StringBuilder();
            for (char c = 'a'; c <= 'e'; c++) {
                most.append("room ").append(c).append(" 1 1 1;");
            }
            for (char c = 'a'; c <= 'e'; c++) {
                most.append("person ").append(c).append(" ").append(c).append(" 1 1 1;");
            }
            most.append("sun a 1 1;".repeat(4)).append("out 1;".repeat(8)).append("knob 9 a;price 1;");
            good(most + "law lose 1;law turn 1;law cross 1;", 27);
        });
        Edge.holds(3, "Terms", "LINE: room W N N N | person W W N N N | sun W N N | out N | knob N W | price N | law LAW E.", () -> {
            lineOf("room", "w", "1", "1", "1");
            lineOf("person", "w", "r", "1", "1", "1");
            lineOf("sun", "r", "1", "1");
            lineOf("out", "1");
            lineOf("knob", "9", "r");
            lineOf("price", "1");
            lineOf("law", "lose", "1");
            Hall.dueFault("7 w 1 1 1;", 1, 0);
            Hall.dueFault("w 1;", 1, 0);
            for (String word : LANGUAGE) {
                if (!isOf("room person sun out knob price law", word)) {
                    Hall.dueFault(word + " 1;", 1, 0);
                }
            }
        });
    }

    /** The LINE as it is, cut behind each of its parts, with one more, and each part of another kind. */
    private static void lineOf(String... parts) {
        String line = ROOM;
        for (int i = 0; i < parts.length; i++) {
            line += parts[i];
            if (i + 1 < parts.length) {
                Hall.dueFault(line + ";", 1, line.length());
                Hall.dueFault(line, 1, line.length());
                Hall.dueFault(line + " ", 1, line.length() + 1);
                boolean number = Character.isDigit(parts[i + 1].charAt(0));
                Hall.dueFault(line + " " + (number ? "w" : "7") + " ", 1, line.length() + 1);
                // A '(' can stand where an E begins: there more must come.
                Hall.dueFault(line + " (", 1, line.length() + (parts[i].equals("lose") ? 2 : 1));
                line += " ";
            }
        }
        good(line + ";", 2);
        good(line + " \n;", 2);
        Hall.dueFault(line, 1, line.length());
        Hall.dueFault(line + " 1;", 1, line.length() + 1);
        Hall.dueFault(line + " w;", 1, line.length() + 1);
        Hall.dueFault(line + " out 1;", 1, line.length() + 1);
    }

    private static void lawsOfThree() {
        Edge.holds(3, "Terms", "LAW: lose | turn | cross.", () -> {
            good("law lose 1;law turn 1;law cross 1;", 3);
            for (String word : LANGUAGE) {
                if (!isOf("lose turn cross", word)) {
                    Hall.dueFault("law " + word + " 1;", 1, 4);
                }
            }
            Hall.dueFault("law w 1;", 1, 4);
            Hall.dueFault("law los 1;", 1, 4);
            Hall.dueFault("law loses 1;", 1, 4);
            Hall.dueFault("law 1;", 1, 4);
        });
    }

    private static void words() {
        Edge.holds(3, "Terms", "Words: small letters in a row;", () -> {
            good("room a 1 1 1;room z 1 1 1;", 2);
            char[] none = {'`', '{', '_', 'A', 'Z', (char) 228, (char) 0};
            for (char c : none) {
                Hall.dueFault("room " + c + " 1 1 1;", 1, 5);
                Hall.dueFault("room h" + c + " 1 1 1;", 1, 6);
            }
            Hall.dueFault("ro om h 1 1 1;", 1, 0);
            Hall.dueFault("room h s 1 1 1;", 1, 7);
            Hall.dueFault("ROOM h 1 1 1;", 1, 0);
        });
        Edge.holds(3, "Terms", "W: one of 1 .. 6 letters, none of those of the language;", () -> {
            good("room a 1 1 1;room abcdef 1 1 1;person z abcdef 1 1 1;person zyxwvu a 1 1 1;", 4);
            Hall.dueFault("room abcdefg 1 1 1;", 1, 5);
            Hall.dueFault("room abcdef 1 1 1;person abcdefg abcdef 1 1 1;", 1, 25);
            Hall.dueFault("room abcdef 1 1 1;person a abcdefg 1 1 1;", 1, 27);
            for (String word : LANGUAGE) {
                Hall.dueFault("room " + word + " 1 1 1;", 1, 5);
                Hall.dueFault(ROOM + "person " + word + " r 1 1 1;", 1, 20);
                Hall.dueFault(ROOM + "person p " + word + " 1 1 1;", 1, 22);
                Hall.dueFault(ROOM + "sun " + word + " 1 1;", 1, 17);
                Hall.dueFault(ROOM + "knob 9 " + word + ";", 1, 20);
                good("room " + word.substring(1) + "x 1 1 1;", 1);
                if (word.length() < 6) {
                    good("room " + word + "s 1 1 1;", 1);
                }
            }
        });
    }

    private static void numbers() {
        Edge.holds(3, "Terms", "N: digits.", () -> {
            good("out 0;out 9;out 10;out 00;out 0000000000000000000000000000400;", 5);
            Hall.dueFault("out /;", 1, 4);
            Hall.dueFault("out :;", 1, 4);
            Hall.dueFault("out 1/;", 1, 5);
            Hall.dueFault("out 1:;", 1, 5);
            Hall.dueFault("out -1;", 1, 4);
            Hall.dueFault("out +1;", 1, 4);
            Hall.dueFault("out 1 1;", 1, 6);
            Hall.dueFault("out 1.5;", 1, 5);
            Hall.dueFault("out " + (char) (176) + ";", 1, 4);
        });
    }

    private static void blanks() {
        Edge.holds(3, "Terms", "Blanks 10, 32.", () -> {
            good("out 1;", 1);
            good("out\n1;", 1);
            good(" \n out \n 1 \n ; \n", 1);
            for (int none = 0; none < 256; none++) {
                boolean part = none == 10 || none == 32 || none >= 'a' && none <= 'z' || none >= '0' && none <= '9';
                if (!part) {
                    Hall.dueFault("out" + (char) none + "1;", 1, 3);
                }
            }
        });
    }

    private static String law(String formula) {
        return "law lose " + formula + ";";
    }

    private static void faultOf(String formula, int fault, int place) {
        Hall.dueFault(law(formula), fault, 9 + place);
    }

    private static void formulas() {
        Edge.holds(3, "Terms", "E: A { or A }. A: B { and B }.", () -> {
            good(law("1 or 1 or 1"), 1);
            good(law("1 and 1 or 1 and 1"), 1);
            faultOf("or 1", 1, 0);
            faultOf("and 1", 1, 0);
            faultOf("1 or", 1, 4);
            faultOf("1 and", 1, 5);
            faultOf("1 or or 1", 1, 5);
            faultOf("1 and or 1", 1, 6);
            faultOf("", 1, 0);
        });
        Edge.holds(3, "Terms", "B: not B | C.", () -> {
            good(law("not 1"), 1);
            good(law("not not 1 < 2"), 1);
            good(law("1 and not 1 or not 1"), 1);
            good(law("(not 1) + 1 < (not 1)"), 1);
            faultOf("not", 1, 3);
            faultOf("1 not 1", 1, 2);
            faultOf("1 < not 1", 1, 4);
            faultOf("1 + not 1", 1, 4);
            faultOf("1 * not 1", 1, 4);
            faultOf("not < 1", 1, 4);
        });
        Edge.holds(3, "Terms", "C: S [ ( < | <= | = | <> | >= | > ) S ].", () -> {
            String[] signs = {"<", "<=", "=", "<>", ">=", ">"};
            for (String sign : signs) {
                good(law("1 " + sign + " 1"), 1);
                for (String other : signs) {
                    faultOf("1 " + sign + " 1 " + other + " 1", 1, 5 + sign.length());
                    faultOf("(1 " + sign + " 1 + 2 " + other + " 1)", 1, 10 + sign.length());
                    good(law("(1 " + sign + " 1) " + other + " 1"), 1);
                    good(law("1 " + sign + " (1 " + other + " 1)"), 1);
                    good(law("1 " + sign + " 1 and 1 " + other + " 1"), 1);
                    good(law("1 " + sign + " 1 or 1 " + other + " 1"), 1);
                    good(law("1 " + sign + " 1 and not 1 " + other + " 1"), 1);
                }
                faultOf("(1 " + sign + " 1) " + sign + " 1 " + sign + " 1", 1, 10 + 2 * sign.length());
                faultOf("1 " + sign + " (1 " + sign + " 1) " + sign + " 1", 1, 10 + 2 * sign.length());
                faultOf(sign + " 1", 1, 0);
                faultOf("1 " + sign, 1, 2 + sign.length());
            }
        });
        Edge.holds(3, "Terms", "S: T { ( + | - ) T }. T: P { ( * | / ) P }.", () -> {
            good(law("1 + 1 - 1 * 1 / 1"), 1);
            String[] signs = {"+", "-", "*", "/"};
            for (String sign : signs) {
                faultOf(sign + "1", 1, 0);
                faultOf("1" + sign, 1, 2);
                faultOf("1" + sign + sign + "1", 1, 2);
                faultOf("(" + sign + "1)", 1, 1);
            }
        });
        Edge.holds(3, "Terms", "P: N | NAME | '(' E ')'; N of E 0 .. 9999.", () -> {
            good(law("0"), 1);
            good(law("9999"), 1);
            good(law("0009999"), 1);
            faultOf("10000", 2, 0);
            faultOf("1 + 10000", 2, 4);
            faultOf("4294967296", 2, 0);
            faultOf("18446744073709551617", 2, 0);
            good(law("(0 or 1)"), 1);
            faultOf("()", 1, 1);
            faultOf("(1", 1, 2);
            faultOf("1)", 1, 1);
            faultOf("(1))", 1, 3);
            faultOf("(1;", 1, 2);
            faultOf("1 1", 1, 2);
            faultOf("1 (1)", 1, 2);
            faultOf("(1) 1", 1, 4);
            faultOf("(1)(1)", 1, 3);
            faultOf("1 warm", 1, 2);
            Hall.dueFault("law lose (1", 1, 11);
            Hall.dueFault("law lose 1", 1, 10);
        });
        Edge.holds(3, "Terms", "NAME: warm outer felt wish set leak hour.", () -> {
            for (String word : LANGUAGE) {
                if (isOf("warm outer felt wish set leak hour", word)) {
                    good(law(word), 1);
                } else {
                    Hall.dueFault("law lose " + word + ";", 1, word.equals("not") ? 12 : 9);
                }
            }
            faultOf("w", 1, 0);
            faultOf("war", 1, 0);
            faultOf("warms", 1, 0);
            Hall.dueFault(ROOM + "law lose r;", 1, 22);
        });
    }

    private static void signs() {
        Edge.holds(3, "Terms", "A = (or > behind <) right behind < or > belongs to it.", () -> {
            good(law("1<=1"), 1);
            good(law("1<>1"), 1);
            good(law("1>=1"), 1);
            faultOf("1< =1", 1, 3);
            faultOf("1<\n=1", 1, 3);
            faultOf("1< >1", 1, 3);
            faultOf("1> =1", 1, 3);
            faultOf("1><1", 1, 2);
            faultOf("1>>1", 1, 2);
            faultOf("1<<1", 1, 2);
            faultOf("1=<1", 1, 2);
            faultOf("1=>1", 1, 2);
            faultOf("1==1", 1, 2);
            faultOf("1<==1", 1, 3);
            faultOf("1<=>1", 1, 3);
            faultOf("1<>=1", 1, 3);
            faultOf("1<>>1", 1, 3);
            faultOf("1>==1", 1, 3);
            // What the TAPE has behind the TEXT doesn't belong to it.
            KnobHall hall = new KnobHall();
            hall.feed(0x6c617720, 0x6c6f7365, 0x20313c3d, 0x313b2020, 0x20202020);
            Hall.due("text(11), up to the <", hall.text(11), -1);
            Hall.due("its place", hall.fault(1), 11);
            hall.feed(0x6c617720, 0x6c6f7365, 0x20313c3d, 0x313b2020, 0x20202020);
            Hall.due("text(12), up to the =", hall.text(12), -1);
            Hall.due("its place", hall.fault(1), 12);
            hall.feed(0x6c617720, 0x6c6f7365, 0x20313c3d, 0x313b2020, 0x20202020);
            Hall.due("text(14)", hall.text(14), 1);
            Hall.due("its knots", hall.count(2), 3);
        });
    }

    /** A text of one N at #: the last numbers that may stand, and those beyond. */
    private static void number(String text, int least, int most) {
        int place = text.indexOf('#');
        int lines = text.length() - text.replace(";", "").length();
        good(text.replace("#", "" + least), lines);
        good(text.replace("#", "" + most), lines);
        Hall.dueFault(text.replace("#", "" + (most + 1)), 2, place);
        if (least > 0) {
            Hall.dueFault(text.replace("#", "" + (least - 1)), 2, place);
            Hall.dueFault(text.replace("#", "0"), 2, place);
        }
    }

    private static void atMost(int most, String... lines) {
        String text = "";
        for (int i = 0; i < most; i++) {
            text += lines[i % lines.length].replace('#', (char) ('a' + i));
        }
        int told = text.length() - text.replace(";", "").length();
        good(ROOM + text, told + 1);
        String more = lines[most % lines.length].replace('#', (char) ('a' + most));
        Hall.dueFault(ROOM + text + more, 2, ROOM.length() + text.length());
        Hall.dueFault(ROOM + text + " \n" + more.substring(0, more.indexOf(' ')), 2, ROOM.length() + text.length() + 2);
    }

    private static void rooms() {
        Edge.holds(3, "Terms", "ROOMS, at most 5:", () -> {
            atMost(4, "room # 1 1 1;");
            Hall.due("count(0)", Hall.of(ROOM + "room a 1 1 1;room b 1 1 1;room c 1 1 1;room d 1 1 1;").count(0), 5);
        });
        Edge.holds(3, "Terms", "WARM 0 .. 400 (tenths of a degree)", () -> {
            number("room h # 1 1;", 0, 400);
            Hall.due("0", Hall.of("room h 0 1 1;").room(0, 0), 0);
            Hall.due("400", Hall.of("room h 400 1 1;").room(0, 0), 400);
        });
        Edge.holds(3, "Terms", "LEAK 0 .. 99", () -> {
            number("room h 1 # 1;", 0, 99);
            Hall.due("0", Hall.of("room h 1 0 1;").room(0, 1), 0);
            Hall.due("99", Hall.of("room h 1 99 1;").room(0, 1), 99);
        });
        Edge.holds(3, "Terms", "HEAT 0 .. 99 (tenths an HOUR, if the stove is on)", () -> {
            number("room h 1 1 #;", 0, 99);
            Hall.due("0", Hall.of("room h 1 1 0;").room(0, 2), 0);
            Hall.due("99", Hall.of("room h 1 1 99;").room(0, 2), 99);
            Hall.due("an hour of it", Hall.of("room h 100 0 99;").ahead(1, 0, 0), 199);
            Hall.due("if it is off", Hall.of("room h 200 0 99;").ahead(1, 0, 0), 200);
        });
    }

    private static void people() {
        Edge.holds(3, "Terms", "PEOPLE, at most 5:", () -> {
            atMost(5, "person # r 1 1 1;");
            Hall.due("count(1)", Hall.of(ROOM + "person a r 1 1 1;person b r 1 1 1;person c r 1 1 1;person d r 1 1 1;"
                + "person e r 1 1 1;").count(1), 5);
        });
        Edge.holds(3, "Terms", "sits in a ROOM,", () -> {
            KnobHall hall = Hall.of("room a 10 0 0;room b 20 0 0;person p b 1 1 1;"
                + "room c 30 0 0;person q a 1 1 1;room d 40 0 0;room e 50 0 0;person r e 1 1 1;person a d 1 1 1;person e a 1 1 1;");
            int[] sits = {1, 0, 4, 3, 0};
            for (int person = 0; person < sits.length; person++) {
                Hall.due("the ROOM of " + person, hall.person(person, 0), sits[person]);
                Hall.due("it FEELS that one", hall.person(person, 4), 10 + 10 * sits[person]);
            }
        });
        Edge.holds(3, "Terms", "WANTS 0 .. 40 degrees", () -> {
            number(ROOM + "person p r # 1 1;", 0, 40);
            Hall.due("0", Hall.of(ROOM + "person p r 0 1 1;").person(0, 1), 0);
            Hall.due("40", Hall.of(ROOM + "person p r 40 1 1;").person(0, 1), 40);
        });
        Edge.holds(3, "Terms", "LATE 0 .. 5 HOURS", () -> {
            number(ROOM + "person p r 1 # 1;", 0, 5);
            Hall.due("0", Hall.of(ROOM + "person p r 1 0 1;").person(0, 2), 0);
            Hall.due("5", Hall.of(ROOM + "person p r 1 5 1;").person(0, 2), 5);
        });
        Edge.holds(3, "Terms", "passes at an HOUR 0 .. 23", () -> {
            number(ROOM + "person p r 1 1 #;", 0, 23);
            Hall.due("0", Hall.of(ROOM + "person p r 1 1 0;").person(0, 3), 0);
            Hall.due("23", Hall.of(ROOM + "person p r 1 1 23;").person(0, 3), 23);
        });
    }

    private static void suns() {
        Edge.holds(3, "Terms", "SUN, at most 4:", () -> {
            atMost(4, "sun r 1 1;");
            atMost(4, "sun r 1 1;", "sun r 2 1;");
        });
        Edge.holds(3, "Terms", "on a ROOM at an HOUR 0 .. 23, 0 .. 99 tenths (several for one add up)", () -> {
            number(ROOM + "sun r # 1;", 0, 23);
            number(ROOM + "sun r 1 #;", 0, 99);
            Hall.due("0 tenths", Hall.of(ROOM + "sun r 0 0;").room(0, 3), 0);
            Hall.due("99 tenths", Hall.of(ROOM + "sun r 0 99;").room(0, 3), 99);
            Hall.due("four of 99", Hall.of(ROOM + "sun r 0 99;".repeat(4)).room(0, 3), 396);
            Hall.due("those of one HOUR", Hall.of(ROOM + "sun r 0 1;sun r 23 2;sun r 0 4;sun r 1 8;").room(0, 3), 5);
            Hall.due("those on one ROOM", Hall.of(ROOM + "room s 1 1 1;sun r 0 1;sun s 0 2;sun r 0 4;").room(1, 3), 2);
            KnobHall hall = Hall.of("room r 0 0 0;sun r 23 7;knob 5 r;");
            hall.go(22);
            Hall.due("in HOUR 22", hall.room(0, 3), 0);
            hall.go(1);
            Hall.due("in HOUR 23", hall.room(0, 3), 7);
            hall.go(1);
            Hall.due("in HOUR 24", hall.room(0, 3), 0);
            Hall.due("behind it", hall.room(0, 0), 7);
        });
    }

    private static void weathers() {
        Edge.holds(3, "Terms", "OUT, at most 8: tenths 0 .. 400", () -> {
            atMost(8, "out 1;");
            number("out #;", 0, 400);
            Hall.due("0", Hall.of("out 0;").out(0), 0);
            Hall.due("400", Hall.of("out 400;").out(0), 400);
        });
        Edge.holds(3, "Terms", "of HOUR 0 on, and again from the first one on (100 without)", () -> {
            Hall.due("without", Hall.of(ROOM).out(0), 100);
            Hall.due("without, later", Hall.of(ROOM).out(9999), 100);
            Hall.due("one, HOUR 0", Hall.of("out 7;").out(0), 7);
            Hall.due("one, HOUR 1", Hall.of("out 7;").out(1), 7);
            String text = "";
            for (int told = 1; told <= 8; told++) {
                text += "out " + told + ";";
                KnobHall hall = Hall.of(text);
                Hall.due("the last of " + told, hall.out(told - 1), told);
                Hall.due("behind the last of " + told, hall.out(told), 1);
                Hall.due("HOUR 9999 of " + told, hall.out(9999), 9999 % told + 1);
            }
            KnobHall hall = Hall.of("room h 0 0 0;out 100;out 200;law lose 0 - outer;knob 5 h;");
            Hall.due("HOUR 0 takes the first one", hall.ahead(1, 0, 0), 100);
            Hall.due("HOUR 1 the second one", hall.ahead(2, 0, 0), 300);
            Hall.due("HOUR 2 the first one", hall.ahead(3, 0, 0), 400);
            Hall.due("without", Hall.of("room h 0 0 0;law lose 0 - outer;knob 5 h;").ahead(1, 0, 0), 100);
        });
    }

    private static void knobAndPrice() {
        Edge.holds(3, "Terms", "knob: SET 5 .. 30 degrees, hears a ROOM (20 without, the first ROOM).", () -> {
            number(ROOM + "knob # r;", 5, 30);
            Hall.due("5", Hall.of(ROOM + "knob 5 r;").count(4), 5);
            Hall.due("30", Hall.of(ROOM + "knob 30 r;").count(4), 30);
            Hall.due("SET without", Hall.of(ROOM + "room s 1 1 1;").count(4), 20);
            Hall.due("hears without", Hall.of(ROOM + "room s 1 1 1;").count(5), 0);
            Hall.due("hears the second one", Hall.of(ROOM + "room s 1 1 1;knob 9 s;").count(5), 1);
            Hall.due("hears the first one", Hall.of(ROOM + "room s 1 1 1;knob 9 r;").count(5), 0);
            Hall.due("without a ROOM", Hall.of("out 1;").count(5), -1);
        });
        Edge.holds(3, "Terms", "price: 0 .. 99 an HOUR of fire (3 without).", () -> {
            number("price #;", 0, 99);
            Hall.due("0", Hall.of(ROOM + "price 0;").ahead(2, 1, 0), 0);
            Hall.due("99", Hall.of(ROOM + "price 99;").ahead(2, 1, 0), 198);
            Hall.due("without", Hall.of(ROOM).ahead(2, 1, 0), 6);
        });
    }

    private static void numbered() {
        Edge.holds(3, "Terms", "All numbered as they come; ROOMS, PEOPLE have names of their kind.", () -> {
            KnobHall hall = Hall.of("room z 1 1 1;person a z 1 1 1;room a 2 2 2;person z a 2 2 2;");
            Hall.due("room z", hall.named(0, Hall.letters("z")), 0);
            Hall.due("room a", hall.named(0, Hall.letters("a")), 1);
            Hall.due("person a", hall.named(1, Hall.letters("a")), 0);
            Hall.due("person z", hall.named(1, Hall.letters("z")), 1);
            Hall.due("a sits in z", hall.person(0, 0), 0);
            Hall.due("z sits in a", hall.person(1, 0), 1);
        });
    }
}
