/** What an HOUR does, and what a law is worth: "==== 2.". */
final class EdgesOfHours {
    private static final String PART = "==== 2.";
    private static final long ERROR = Long.MIN_VALUE;

    private EdgesOfHours() { }

    static void hold() {
        hourOfTheDay();
        stove();
        losing();
        coldestAndWarmest();
        late();
        turning();
        another();
        crossness();
        names();
        truths();
        errors();
    }

    private static void hourOfTheDay() {
        Edge.holds(14, PART, "An HOUR t (0 up; of the day: modulo 24)", () -> {
            KnobHall hall = Hall.of("room h 0 0 0;sun h 0 5;sun h 23 7;person a h 0 0 0;person b h 0 0 23;knob 5 h;"
                + "law lose hour - hour;law turn 1;law cross hour;");
            Hall.due("HOUR 0", hall.count(3), 0);
            Hall.due("its sun", hall.room(0, 3), 5);
            Hall.due("a passes", hall.ahead(1, 3, 0), 1);
            hall.go(23);
            Hall.due("HOUR 23", hall.law(2, 0), 23);
            Hall.due("its sun", hall.room(0, 3), 7);
            Hall.due("only a passed", hall.turnsOf(0, 0) * 10 + hall.turnsOf(1, 0), 10);
            hall.go(1);
            Hall.due("HOUR 24", hall.count(3), 24);
            Hall.due("0 of the day", hall.law(2, 0), 0);
            Hall.due("the sun of 0", hall.room(0, 3), 5);
            Hall.due("b passed", hall.turnsOf(0, 0) * 10 + hall.turnsOf(1, 0), 11);
            Hall.due("a was CROSS by all hours 0 .. 23", hall.person(0, 5), 276);
            hall.go(1);
            Hall.due("a passed again", hall.turnsOf(0, 0) * 10 + hall.turnsOf(1, 0), 21);
            Hall.due("sun 5, 7 and 5", hall.room(0, 0), 17);
        });
    }

    private static void onBy(String text, boolean on) {
        KnobHall hall = Hall.of(text);
        Hall.due("ON by " + text, hall.count(7), on ? 1 : 0);
        hall.go(1);
        Hall.due("fire by " + text, hall.count(9), on ? 1 : 0);
        Hall.due("PAID by " + text, hall.count(8), on ? 3 : 0);
        Hall.due("WARM by " + text, hall.room(0, 0), Integer.parseInt(text.split(" ")[2]) + (on ? 40 : 0));
    }

    private static void stove() {
        Edge.holds(14, PART, "(1) the stove is ON, if what the knob hears is below ten times SET (without ROOMS: it isn't)", () -> {
            onBy("room h 199 0 40;", true);
            onBy("room h 200 0 40;", false);
            onBy("room h 201 0 40;", false);
            onBy("room h 49 0 40;knob 5 h;", true);
            onBy("room h 50 0 40;knob 5 h;", false);
            onBy("room h 299 0 40;knob 30 h;", true);
            onBy("room h 300 0 40;knob 30 h;", false);
            onBy("room h 300 0 40;room s 199 0 0;knob 20 s;", true);
            onBy("room h 100 0 40;room s 200 0 0;knob 20 s;", false);
            KnobHall none = new KnobHall();
            Hall.due("without ROOMS", none.count(7), 0);
            none.go(3);
            Hall.due("PAID without ROOMS", none.count(8), 0);
            Hall.due("fire without ROOMS", none.count(9), 0);
            none.set(30);
            none.candle(true);
            Hall.due("by SET 30", none.count(7), 0);
        });
        Edge.holds(14, PART, "the ROOM's WARM and 50 for a CANDLE under it.", () -> {
            KnobHall hall = Hall.of("room h 149 0 40;room s 150 0 40;");
            hall.candle(true);
            Hall.due("149 and 50", hall.count(7), 1);
            hall.hang(1);
            Hall.due("150 and 50", hall.count(7), 0);
            hall.go(1);
            Hall.due("fire", hall.count(9), 0);
            hall.candle(false);
            Hall.due("150 alone", hall.count(7), 1);
            Hall.due("WARM is without", hall.room(1, 0), 150);
        });
        Edge.holds(14, PART, "If it is ON, price is PAID, one HOUR more of fire.", () -> {
            KnobHall hall = Hall.of("room h 199 0 1;price 99;");
            hall.go(1);
            Hall.due("ON: PAID", hall.count(8), 99);
            Hall.due("ON: fire", hall.count(9), 1);
            hall.go(5);
            Hall.due("200 isn't below: PAID", hall.count(8), 99);
            Hall.due("200 isn't below: fire", hall.count(9), 1);
            hall = Hall.of("room h 199 0 0;price 0;");
            hall.go(2);
            Hall.due("a price of 0", hall.count(8), 0);
            Hall.due("fire for nothing", hall.count(9), 2);
        });
    }

    /** WARM behind so many hours. */
    private static void warm(String text, int hours, int want) {
        KnobHall hall = Hall.of(text);
        hall.go(hours);
        Hall.due("WARM behind " + hours + " of " + text, hall.room(0, 0), want);
    }

    private static void losing() {
        Edge.holds(14, PART, "less by E of lose (-400 .. 400;", () -> {
            warm("room h 400 0 0;sun h 0 99;law lose 399;", 1, 100);
            warm("room h 400 0 0;sun h 0 99;law lose 400;", 1, 99);
            warm("room h 400 0 0;sun h 0 99;law lose 401;", 1, 99);
            warm("room h 400 0 0;sun h 0 99;law lose 9999*9999;", 1, 99);
            warm("room h 100 0 0;knob 5 h;law lose 0-399;", 1, 499);
            warm("room h 100 0 0;knob 5 h;law lose 0-400;", 1, 500);
            warm("room h 100 0 0;knob 5 h;law lose 0-401;", 1, 500);
            warm("room h 100 0 0;knob 5 h;law lose 0-9999*9999;", 1, 500);
            warm("room h 100 0 0;knob 5 h;law lose 0;", 1, 100);
        });
        Edge.holds(14, PART, "how much WARM is above OUT times LEAK by 100, cut, -400 .. 400 too, without, with an ERROR)", () -> {
            String[] laws = {"", "law lose 1/0;", "law lose 9999*9999*9999*2;"};
            for (String law : laws) {
                warm("room h 201 50 0;out 100;knob 5 h;" + law, 1, 151);
                warm("room h 200 50 0;out 100;knob 5 h;" + law, 1, 150);
                warm("room h 51 50 0;out 100;knob 5 h;" + law, 1, 75);
                warm("room h 199 1 0;out 100;knob 5 h;" + law, 1, 199);
                warm("room h 200 1 0;out 100;knob 5 h;" + law, 1, 199);
                warm("room h 100 99 0;out 100;knob 5 h;" + law, 1, 100);
                warm("room h 400 99 0;out 0;knob 5 h;" + law, 1, 4);
                warm("room h 60 99 0;out 400;knob 5 h;" + law, 1, 60 + 336);
                // 404, 405 and 406 times 99 by 100: 399, 400, 401, which is 400.
                warm("room h 400 99 0;sun h 0 4;out 400;out 0;knob 5 h;" + law, 2, 5);
                warm("room h 400 99 0;sun h 0 5;out 400;out 0;knob 5 h;" + law, 2, 5);
                warm("room h 400 99 0;sun h 0 6;out 400;out 0;knob 5 h;" + law, 2, 6);
                warm("room h 400 99 0;sun h 0 99;sun h 0 99;sun h 0 9;out 400;out 0;knob 5 h;" + law, 2, 200);
            }
            warm("room h 201 50 0;out 100;knob 5 h;law lose 0;", 1, 201);
            KnobHall two = Hall.of("room h 100 50 0;room s 300 50 0;out 100;knob 5 h;");
            two.go(1);
            Hall.due("each ROOM by its own WARM", two.room(0, 0) * 1000 + two.room(1, 0), 100200);
        });
    }

    private static void coldestAndWarmest() {
        Edge.holds(14, PART, "0 .. 600 at most.", () -> {
            warm("room h 100 0 0;knob 5 h;law lose 99;", 1, 1);
            warm("room h 100 0 0;knob 5 h;law lose 100;", 1, 0);
            warm("room h 100 0 0;knob 5 h;law lose 101;", 1, 0);
            warm("room h 0 0 0;knob 5 h;law lose 400;", 9, 0);
            warm("room h 400 0 0;knob 5 h;law lose 0-199;", 1, 599);
            warm("room h 400 0 0;knob 5 h;law lose 0-200;", 1, 600);
            warm("room h 400 0 0;knob 5 h;law lose 0-201;", 1, 600);
            warm("room h 400 0 0;knob 5 h;law lose 0-400;", 9, 600);
            // Cut at the end alone: HEAT and SUN first, then less by what is lost.
            warm("room h 10 0 20;sun h 0 30;law lose 50;", 1, 10);
            warm("room h 10 0 20;sun h 0 30;law lose 60;", 1, 0);
            warm("room h 10 0 20;sun h 0 30;law lose 61;", 1, 0);
            warm("room h 400 0 0;sun h 0 99;sun h 0 99;sun h 0 99;law lose 98;", 1, 599);
            warm("room h 400 0 0;sun h 0 99;sun h 0 99;sun h 0 99;law lose 97;", 1, 600);
            warm("room h 400 0 0;sun h 0 99;sun h 0 99;sun h 0 99;law lose 96;", 1, 600);
        });
    }

    private static void late() {
        Edge.holds(14, PART, "(3) by numbers each PERSON FEELS the WARM of its ROOM as it was LATE HOURS ago (behind (2) of that HOUR; at first: as told), and 20 for a JUMPER;", () -> {
            for (int late = 0; late <= 5; late++) {
                KnobHall hall = Hall.of("room s 7 0 0;room h 100 0 10;person a h 20 " + late + " 9;knob 30 h;law cross felt;");
                int cross = 0;
                for (int hours = 0; hours <= 8; hours++) {
                    int felt = 100 + 10 * Math.max(0, hours - late);
                    Hall.due("behind " + hours + " HOURS, LATE " + late, hall.person(0, 4), felt);
                    cross += hours == 0 ? 0 : felt;
                    Hall.due("its CROSS", hall.person(0, 5), cross);
                    hall.go(1);
                }
                int felt = hall.person(0, 4);
                hall.jumper(0, true);
                Hall.due("with a JUMPER", hall.person(0, 4), felt + 20);
                hall.jumper(0, false);
                Hall.due("without", hall.person(0, 4), felt);
            }
        });
    }

    private static void setBehind(String text, int want) {
        KnobHall hall = Hall.of(text);
        int before = hall.count(4);
        hall.go(1);
        Hall.due("SET by " + text, hall.count(4), want);
        Hall.due("TURNS by " + text, hall.count(10), want == before ? 0 : 1);
        Hall.due("turnsOf by " + text, hall.turnsOf(0, 0), want == before ? 0 : 1);
        Hall.due("learn by " + text, hall.learn(0), want == before ? -2 : want);
    }

    private static void turning() {
        Edge.holds(14, PART, "turns the knob by E of turn (-9 .. 9;", () -> {
            int[] by = {0, 1, 8, 9, 10, 9999};
            for (int degrees : by) {
                setBehind("room h 100 0 0;person a h 20 0 0;knob 15 h;law turn " + degrees + ";", 15 + Math.min(9, degrees));
                setBehind("room h 100 0 0;person a h 20 0 0;knob 15 h;law turn 0-" + degrees + ";", 15 - Math.min(9, degrees));
            }
            KnobHall two = Hall.of("room h 100 0 0;person a h 10 0 9;person b h 30 0 0;law turn wish/100;");
            two.go(1);
            Hall.due("by what the one who passes WANTS", two.count(4), 23);
            Hall.due("who turned it", two.turnsOf(0, 0) * 10 + two.turnsOf(1, 0), 1);
        });
        Edge.holds(14, PART, "1, if FELT is below ten times WANTS less 5, -1, if it is above ten times WANTS and 5, else 0, without, with an ERROR)", () -> {
            String[] laws = {"", "law turn 1/0;", "law turn 9999*9999*9999*2;"};
            for (String law : laws) {
                setBehind("room h 194 0 0;person a h 20 0 0;" + law, 21);
                setBehind("room h 195 0 0;person a h 20 0 0;" + law, 20);
                setBehind("room h 200 0 0;person a h 20 0 0;" + law, 20);
                setBehind("room h 205 0 0;person a h 20 0 0;" + law, 20);
                setBehind("room h 206 0 0;person a h 20 0 0;" + law, 19);
                setBehind("room h 0 0 0;person a h 0 0 0;" + law, 20);
                setBehind("room h 6 0 0;person a h 0 0 0;" + law, 19);
                setBehind("room h 394 0 0;person a h 40 0 0;" + law, 21);
                setBehind("room h 395 0 0;person a h 40 0 0;" + law, 20);
                setBehind("room h 0 0 0;person a h 20 0 1;" + law, 20);
            }
            KnobHall hall = Hall.of("room h 174 0 0;person a h 20 0 0;person b h 20 0 1;");
            hall.jumper(0, true);
            hall.go(1);
            Hall.due("174 and a JUMPER", hall.count(4), 21);
            hall = Hall.of("room h 175 0 0;person a h 20 0 0;");
            hall.jumper(0, true);
            hall.go(1);
            Hall.due("175 and a JUMPER", hall.count(4), 20);
            hall = Hall.of("room h 200 0 0;room s 194 0 0;person a h 20 0 9;person b s 20 0 0;");
            hall.go(1);
            Hall.due("by what the one who passes FEELS", hall.count(4), 21);
        });
    }

    private static void another() {
        Edge.holds(14, PART, "5 .. 30: TURNS are more by 1, if it is another SET then.", () -> {
            setBehind("room h 0 0 0;person a h 20 0 0;knob 29 h;law turn 1;", 30);
            setBehind("room h 0 0 0;person a h 20 0 0;knob 29 h;law turn 2;", 30);
            setBehind("room h 0 0 0;person a h 20 0 0;knob 30 h;law turn 1;", 30);
            setBehind("room h 0 0 0;person a h 20 0 0;knob 30 h;law turn 9;", 30);
            setBehind("room h 0 0 0;person a h 20 0 0;knob 6 h;law turn 0-1;", 5);
            setBehind("room h 0 0 0;person a h 20 0 0;knob 6 h;law turn 0-2;", 5);
            setBehind("room h 0 0 0;person a h 20 0 0;knob 5 h;law turn 0-1;", 5);
            setBehind("room h 0 0 0;person a h 20 0 0;knob 21 h;law turn 9;", 30);
            setBehind("room h 0 0 0;person a h 20 0 0;knob 14 h;law turn 0-9;", 5);
            setBehind("room h 0 0 0;person a h 20 0 0;law turn 0;", 20);
            // Turned there and back in one HOUR: two TURNS, though SET is as before.
            KnobHall hall = Hall.of("room h 200 0 0;person a h 30 0 0;person b h 10 0 0;");
            hall.go(1);
            Hall.due("SET", hall.count(4), 20);
            Hall.due("TURNS", hall.count(10), 2);
        });
    }

    private static void cross(String text, int want) {
        KnobHall hall = Hall.of(text);
        hall.go(1);
        Hall.due("CROSS by " + text, hall.person(0, 5), want);
        hall.go(1);
        Hall.due("CROSS twice by " + text, hall.person(0, 5), 2 * want);
    }

    private static void crossness() {
        Edge.holds(14, PART, "(4) each PERSON is CROSS by E of cross more (0 .. 999;", () -> {
            int[] by = {0, 1, 998, 999, 1000, 9999};
            for (int more : by) {
                cross("room h 100 0 0;person a h 20 0 9;law cross " + more + ";", Math.min(999, more));
            }
            cross("room h 100 0 0;person a h 20 0 9;law cross 0-1;", 0);
            cross("room h 100 0 0;person a h 20 0 9;law cross 0-9999*9999;", 0);
            cross("room h 100 0 0;person a h 20 0 9;law cross 9999*9999*9999;", 999);
        });
        Edge.holds(14, PART, "how far FELT is from ten times WANTS, by 10, cut, without, with an ERROR).", () -> {
            String[] laws = {"", "law cross 1/0;", "law cross 9999*9999*9999*2;"};
            int[] warm = {200, 191, 190, 181, 180, 209, 210, 219, 220, 0, 400};
            int[] due = {0, 0, 1, 1, 2, 0, 1, 1, 2, 20, 20};
            for (String law : laws) {
                for (int i = 0; i < warm.length; i++) {
                    cross("room h " + warm[i] + " 0 0;person a h 20 0 9;" + law, due[i]);
                }
                cross("room h 0 0 0;person a h 40 0 9;" + law, 40);
                cross("room h 400 0 0;person a h 0 0 9;" + law, 40);
                KnobHall two = Hall.of("room h 200 0 0;person a h 20 0 9;person b h 30 0 9;" + law);
                two.go(1);
                Hall.due("each by what it WANTS", two.person(0, 5) * 100 + two.person(1, 5), 10);
            }
        });
    }

    private static long value(String formula) {
        return Hall.of("room h 180 7 20;person a h 21 0 5;out 60;law lose " + formula + ";").law(0, 0);
    }

    private static void value(String formula, long want) {
        Hall.due(formula, value(formula), want);
    }

    private static void names() {
        Edge.holds(9, PART, "felt: what the PERSON FEELS (of lose 0); wish: ten times WANTS (of lose 0);", () -> {
            value("felt", 0);
            value("wish", 0);
            KnobHall hall = Hall.of("room h 180 7 20;person a h 0 0 5;person b h 40 0 5;law lose felt + wish;law turn wish;law cross felt;");
            Hall.due("lose", hall.law(0, 0), 0);
            Hall.due("WANTS 0", hall.law(1, 0), 0);
            Hall.due("WANTS 40", hall.law(1, 1), 400);
            Hall.due("FELT", hall.law(2, 0), 180);
            hall.go(1);
            Hall.due("lose in an HOUR is 0, too: 180 and 20", hall.room(0, 0), 200);
            Hall.due("lose behind it", hall.law(0, 0), 0);
        });
    }

    private static void truths() {
        Edge.holds(9, PART, "VALUES are longs; comparisons, and, or, not are 1 or 0 (what isn't 0 is as 1, both sides are worked out)", () -> {
            value("9999*9999*99", 9898020099L);
            value("0-9999*9999*99", -9898020099L);
            value("4096*4096*256 = 0", 0);
            value("4096*4096*256 > 4096*4096*128", 1);
            value("not (4096*4096*256)", 0);
            value("4096*4096*256 and 4096*4096*256", 1);
            value("0 or 4096*4096*256", 1);
            String[] signs = {"<", "<=", "=", "<>", ">=", ">"};
            // Of 1 and 2, 2 and 2, 3 and 2.
            int[][] due = {{1, 0, 0}, {1, 1, 0}, {0, 1, 0}, {1, 0, 1}, {0, 1, 1}, {0, 0, 1}};
            for (int i = 0; i < signs.length; i++) {
                for (int left = 1; left <= 3; left++) {
                    value(left + signs[i] + "2", due[i][left - 1]);
                    value("0-" + left + signs[i] + "0-2", due[i][3 - left]);
                }
            }
            value("not 0", 1);
            value("not 1", 0);
            value("not 9999", 0);
            value("not (0-1)", 0);
            value("2 and 4", 1);
            value("0-1 and 1", 1);
            value("0 and 1", 0);
            value("1 and 0", 0);
            value("0 or 0", 0);
            value("0 or 0-7", 1);
            value("7 or 0", 1);
            value("1 or 1 and 0", 1);
            value("0 and 1 or 1", 1);
            value("(1 or 1) and 0", 0);
            value("(0 or 7) + (3 and 4)", 2);
            value("not 0 and 0", 0);
            value("5 + (not 0)", 6);
            value("5 + (not 7)", 5);
            value("0 or not 7", 0);
            value("0 or not 0", 1);
            value("3 - (2 - (not 0))", 2);
            value("0 and 1/0", ERROR);
            value("1/0 and 0", ERROR);
            value("1 or 1/0", ERROR);
            value("1/0 or 1", ERROR);
            value("0*(1/0)", ERROR);
            value("not (1/0)", ERROR);
            value("1/0 = 1/0", ERROR);
        });
        Edge.holds(9, PART, "/ is cut towards 0;", () -> {
            value("7/2", 3);
            value("(0-7)/2", -3);
            value("7/(0-2)", -3);
            value("(0-7)/(0-2)", 3);
            value("1/2", 0);
            value("(0-1)/2", 0);
            value("0/5", 0);
            value("9999/9999", 1);
            value("9998/9999", 0);
        });
    }

    private static void errors() {
        String most = "1000*1000*1000*1000";
        Edge.holds(9, PART, "ERROR: / by 0, a value above 10 to the 12 or below 0 by more than that.", () -> {
            value("1/0", ERROR);
            value("0/0", ERROR);
            value("1/(1-1)", ERROR);
            value("1/1", 1);
            value(most, 1000000000000L);
            value(most + "+1", ERROR);
            value(most + "+1-1", ERROR);
            value(most + "-1", 999999999999L);
            value("0-" + most, -1000000000000L);
            value("0-" + most + "-1", ERROR);
            value("0-" + most + "-1+1", ERROR);
            value("0-" + most + "+1", -999999999999L);
            value("(" + most + "-1)+1", 1000000000000L);
            value("(" + most + "-1)*1", 999999999999L);
            value("(" + most + ")*1", 1000000000000L);
            value("(" + most + ")*(0-1)", -1000000000000L);
            value("(0-" + most + ")*(0-1)", 1000000000000L);
            value("(" + most + ")*2", ERROR);
            value("(" + most + ")*(0-2)", ERROR);
            value("2*(" + most + ")", ERROR);
            value("(" + most + ")*0", 0);
            value("0*(" + most + ")", 0);
            value("(" + most + ")/(0-1)", -1000000000000L);
            value("(" + most + ")-(" + most + ")", 0);
            value("(" + most + ")+(" + most + ")", ERROR);
            value("(" + most + ")>1", 1);
            value("(" + most + "+1)>1", ERROR);
            value("1000*1000*1000*500*2", 1000000000000L);
            value("1000*1000*1000*501*2", ERROR);
            // Great values that are none, whichever side is the greater one.
            value("9999*9999*9999", 999700029999L);
            value("0-9999*9999*9999", -999700029999L);
            value("9999*(9999*9999)", 999700029999L);
            value("4096*4096*4096*8", 549755813888L);
            value("8*(4096*4096*4096)", 549755813888L);
            value("(0-4096)*4096*4096*8", -549755813888L);
            value("4096*4096*(0-4096)*8", -549755813888L);
            value("4096*4096*4096*14", 962072674304L);
            value("4096*4096*4096*15", ERROR);
            value("4096*4096*4096*(0-15)", ERROR);
            value("9999*9999*9999*2", ERROR);
            // Beyond a long it is an ERROR, too, also where its low bits are small.
            value("(" + most + ")*(" + most + ")", ERROR);
            value("4096*4096*4096*8*(4096*4096*4096*8)", ERROR);
            value("4096*4096*4096*8*(4096*4096*4)", ERROR);
            // 0 in HOUR 0 alone.
            KnobHall hall = Hall.of("room h 100 0 0;knob 5 h;law lose 1/hour;");
            Hall.due("1/hour in HOUR 0", hall.law(0, 0), ERROR);
            hall.go(1);
            Hall.due("1/hour in HOUR 1", hall.law(0, 0), 1);
        });
    }
}
