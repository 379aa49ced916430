import java.util.function.Consumer;

/** Promises 18 to 22, 24, 28 and 31: best, cheap, hears, onAgain, night, degree, givesIn, strip. */
final class EdgesOfChoice {
    private static final int[] FAR_OFF = {-1, -2, Integer.MIN_VALUE, Integer.MAX_VALUE};
    /** Always ON by 11 and more, never by 10 and less, whatever is lost: nothing. */
    private static final String STILL = "room h 100 0 0;person a h 20 0 0;law turn 9;";

    private EdgesOfChoice() { }

    static void hold() {
        best();
        cheap();
        hears();
        onAgain();
        night();
        degree();
        givesIn();
        strip();
    }

    private static void asked(String call, Consumer<KnobHall> question) {
        Edge.leaves(call, Halls::rich, question);
        Edge.leaves(call + " of a new object", KnobHall::new, question);
    }

    private static void best(String cross, int set, int least) {
        KnobHall hall = Hall.of(STILL + "law cross " + cross + ";");
        Hall.due("best(2, 0) by " + cross, hall.best(2, 0), set);
        Hall.due("best(2, 1) by " + cross, hall.best(2, 1), least);
    }

    private static void best() {
        Edge.holds(18, "==== 3.", "BEST for n HOURS: the SET 5 .. 30, nobody turning it, by which all are least CROSS more, of several the first.", () -> {
            best("set", 5, 100);
            best("999 - set", 30, 1398);
            best("(set < 290)*400 + set", 29, 580);
            best("(set < 60)*100 + set", 6, 120);
            best("set < 120 or set > 180", 12, 0);
            best("7", 5, 14);
            best("(set <> 300)*9", 30, 0);
            best("(set <> 50)*9", 5, 0);
            KnobHall hall = Hall.of(STILL + "law cross set;");
            hall.go(9);
            Hall.due("more, not so far", hall.best(1, 1), 50);
        });
        Edge.holds(18, "BEST (n 1 .. 99), what 0: SET, 1: CROSS more by it. NONE: no such ones.", () -> {
            KnobHall hall = Hall.of(STILL + "law cross 300 - set + 1;");
            Hall.due("best(1, 0)", hall.best(1, 0), 30);
            Hall.due("best(1, 1)", hall.best(1, 1), 1);
            Hall.due("best(99, 0)", hall.best(99, 0), 30);
            Hall.due("best(99, 1)", hall.best(99, 1), 99);
            Hall.due("best(0, 0)", hall.best(0, 0), -1);
            Hall.due("best(0, 1)", hall.best(0, 1), -1);
            Hall.due("best(100, 0)", hall.best(100, 0), -1);
            Hall.due("best(100, 1)", hall.best(100, 1), -1);
            Hall.due("best(1, 2)", hall.best(1, 2), -1);
            for (int wrong : FAR_OFF) {
                Hall.due("n " + wrong, hall.best(wrong, 0), -1);
                Hall.due("what " + wrong, hall.best(1, wrong), -1);
            }
            Hall.due("nobody", new KnobHall().best(99, 0), 5);
            Hall.due("CROSS of nobody", new KnobHall().best(99, 1), 0);
            Hall.due("nobody, n 0", new KnobHall().best(0, 0), -1);
            asked("best(99, 1)", other -> other.best(99, 1));
            asked("best(100, 0)", other -> other.best(100, 0));
        });
    }

    private static void cheap() {
        Edge.holds(19, "==== 3.", "CHEAP for n HOURS and a bound: the SET by which least is PAID, all being CROSS by no more than the bound more, nobody turning; of several the first.", () -> {
            // In two HOURS CROSS by 20 for each degree below 30; no fire by 5 .. 10.
            KnobHall hall = Hall.of(STILL + "law cross 300 - set;");
            Hall.due("bound 500, all of them", hall.cheap(2, 500), 5);
            Hall.due("bound 499, but 5", hall.cheap(2, 499), 6);
            Hall.due("bound 400", hall.cheap(2, 400), 10);
            Hall.due("bound 399, those with fire alike", hall.cheap(2, 399), 11);
            Hall.due("bound 20", hall.cheap(2, 20), 29);
            Hall.due("bound 19", hall.cheap(2, 19), 30);
            Hall.due("bound 0", hall.cheap(2, 0), 30);
            hall.go(5);
            Hall.due("CROSS more, not so far", hall.cheap(2, 0), 30);
            hall = Hall.of(STILL + "law cross 301 - set;");
            Hall.due("bound 1 of 2", hall.cheap(2, 1), -2);
            Hall.due("bound 2 of 2", hall.cheap(2, 2), 30);
            // By 25 and more one HOUR of fire, by 11 .. 24 two.
            hall = Hall.of(STILL + "law lose 0 - 300*(set >= 250);law cross set < 110;");
            Hall.due("least is PAID by 25", hall.cheap(2, 0), 25);
            Hall.due("by 5 nothing", hall.cheap(2, 2), 5);
        });
        Edge.holds(19, "CHEAP (n 1 .. 99, a bound 0 .. 99999): SET; -2: by none; NONE: no such ones.", () -> {
            // 441, 999 and 999 in each of 41 HOURS: 99999.
            String three = "room h 100 0 0;person a h 0 0 0;person b h 1 0 0;person c h 1 0 0;";
            KnobHall hall = Hall.of(three + "law cross 441 + 558*(wish > 0);");
            Hall.due("bound 99999 of 99999", hall.cheap(41, 99999), 5);
            Hall.due("bound 99998 of 99999", hall.cheap(41, 99998), -2);
            Hall.due("bound 100000", hall.cheap(41, 100000), -1);
            hall = Hall.of(three + "law cross 2 + 997*(wish > 0);");
            Hall.due("bound 99999 of 100000", hall.cheap(50, 99999), -2);
            hall = Hall.of(three + "law cross 0;");
            Hall.due("bound 0 of 0", hall.cheap(99, 0), 5);
            Hall.due("n 1", hall.cheap(1, 0), 5);
            Hall.due("n 0", hall.cheap(0, 0), -1);
            Hall.due("n 100", hall.cheap(100, 0), -1);
            for (int wrong : FAR_OFF) {
                Hall.due("n " + wrong, hall.cheap(wrong, 9), -1);
                Hall.due("bound " + wrong, hall.cheap(9, wrong), -1);
            }
            Hall.due("nobody", new KnobHall().cheap(99, 0), 5);
            Hall.due("nobody, bound -1", new KnobHall().cheap(99, -1), -1);
            asked("cheap(99, 99999)", other -> other.cheap(99, 99999));
            asked("cheap(100, 0)", other -> other.cheap(100, 0));
        });
    }

    private static void hears() {
        // By 20 it is ON where it is below 200; p in s is least CROSS by fire, q in h without.
        String rooms = "room h 200 0 50;room s 199 0 50;room t 199 0 50;";
        Edge.holds(20, "==== 3.", "HANG for n HOURS: the ROOM that the knob should hear so that all are least CROSS more, nobody turning it (CANDLE as it is), the first of several.", () -> {
            Hall.due("fire is better: s, not t", Hall.of(rooms + "person p s 25 0 0;law turn 9;").hears(1), 1);
            Hall.due("no fire is better: h", Hall.of(rooms + "person p s 20 0 0;knob 20 t;").hears(1), 0);
            Hall.due("all alike", Hall.of(rooms).hears(1), 0);
            KnobHall asked = Hall.of(rooms + "person p s 25 0 0;");
            asked.soon(0, 300, 5);
            Hall.due("by SET as it is, whatever was asked ahead", asked.hears(1), 1);
            KnobHall hall = Hall.of("room h 150 0 50;room s 149 0 50;person p s 20 0 0;");
            Hall.due("without a CANDLE both are heard cold", hall.hears(1), 0);
            hall.candle(true);
            Hall.due("with one s alone", hall.hears(1), 1);
            hall.hang(1);
            hall.go(9);
            Hall.due("more, not so far", hall.hears(1), 0);
            Hall.due("the last one", Hall.of("room a 200 0 9;room b 200 0 9;room c 200 0 9;room d 200 0 9;room e 199 0 9;"
                + "person p a 21 0 0;law cross 210 - felt;").hears(1), 4);
        });
        Edge.holds(20, "HANG (n 1 .. 99): the ROOM; NONE: no such n, no ROOMS.", () -> {
            KnobHall hall = Hall.of(rooms + "person p s 25 0 0;");
            Hall.due("n 1", hall.hears(1), 1);
            Hall.due("n 99", hall.hears(99) >= 0, true);
            Hall.due("n 0", hall.hears(0), -1);
            Hall.due("n 100", hall.hears(100), -1);
            for (int wrong : FAR_OFF) {
                Hall.due("n " + wrong, hall.hears(wrong), -1);
            }
            Hall.due("no ROOMS", new KnobHall().hears(1), -1);
            Hall.due("no ROOMS, n 99", new KnobHall().hears(99), -1);
            Hall.due("one ROOM", Hall.of("room h 1 1 1;").hears(99), 0);
            asked("hears(99)", other -> other.hears(99));
            asked("hears(100)", other -> other.hears(100));
        });
    }

    private static void onAgain() {
        // By 5 never ON, by 30 a tenth an HOUR.
        String house = "room h 100 0 1;room s 100 0 0;person a h 0 0 0;law turn 9;";
        Edge.holds(21, "==== 3.", "at which HOUR from now on (0 up to n) SET must be 30 at the latest, so that behind n HOURS the ROOM is so WARM at least, nobody turning.", () -> {
            KnobHall hall = Hall.of(house);
            Hall.due("100: 30 isn't needed", hall.onAgain(0, 100, 10), 10);
            Hall.due("101: the last HOUR", hall.onAgain(0, 101, 10), 9);
            Hall.due("109", hall.onAgain(0, 109, 10), 1);
            Hall.due("110: all of them", hall.onAgain(0, 110, 10), 0);
            Hall.due("111: by none", hall.onAgain(0, 111, 10), -2);
            Hall.due("n 0, it is", hall.onAgain(0, 100, 0), 0);
            Hall.due("n 0, it isn't", hall.onAgain(0, 101, 0), -2);
            Hall.due("the second ROOM, 100", hall.onAgain(1, 100, 10), 10);
            Hall.due("the second ROOM, 101", hall.onAgain(1, 101, 10), -2);
            hall = Hall.of("room h 100 0 1;knob 5 h;");
            hall.go(7);
            Hall.due("from now on", hall.onAgain(0, 101, 10), 9);
            hall.set(30);
            Hall.due("5 till then, whatever SET is", hall.onAgain(0, 101, 10), 9);
            // By 5 it is ON below 50.
            hall = Hall.of("room h 48 0 1;");
            Hall.due("50 by 5 alone", hall.onAgain(0, 50, 9), 9);
            Hall.due("51: one HOUR of 30", hall.onAgain(0, 51, 9), 8);
            Hall.due("57: 30 from HOUR 2 on", hall.onAgain(0, 57, 9), 2);
        });
        Edge.holds(21, "BACK (tenths 0 .. 600, n 0 .. 99); -2: by none; NONE: no such ones.", () -> {
            KnobHall hall = Hall.of(house);
            Hall.due("n 99, 199", hall.onAgain(0, 199, 99), 0);
            Hall.due("n 99, 200", hall.onAgain(0, 200, 99), -2);
            Hall.due("n 99, tenths 0", hall.onAgain(0, 0, 99), 99);
            Hall.due("tenths 600", hall.onAgain(0, 600, 99), -2);
            Hall.due("tenths 601", hall.onAgain(0, 601, 99), -1);
            Hall.due("n 100", hall.onAgain(0, 100, 100), -1);
            Hall.due("room 1", hall.onAgain(1, 100, 5), 5);
            Hall.due("room 2", hall.onAgain(2, 100, 5), -1);
            for (int wrong : FAR_OFF) {
                Hall.due("room " + wrong, hall.onAgain(wrong, 100, 5), -1);
                Hall.due("tenths " + wrong, hall.onAgain(0, wrong, 5), -1);
                Hall.due("n " + wrong, hall.onAgain(0, 100, wrong), -1);
            }
            Hall.due("600", Hall.of("room h 400 0 0;law lose 0 - 200;").onAgain(0, 600, 1), 1);
            Hall.due("of a new object", new KnobHall().onAgain(0, 0, 0), -1);
            asked("onAgain(0, 300, 99)", other -> other.onAgain(0, 300, 99));
            asked("onAgain(0, 300, 100)", other -> other.onAgain(0, 300, 100));
        });
    }

    private static void night() {
        Edge.holds(22, "==== 3.", "PAID more, if SET is 5 in HOURS 22, 23, 0 .. 5 of the day and else as now, less what is PAID more with SET as now through (nobody turning).", () -> {
            for (int hour = 0; hour < 24; hour++) {
                // Cold in one HOUR of the day alone: ON in it by 20, not by 5.
                int ahead = (hour + 23) % 24;
                KnobHall hall = Hall.of("room h " + (hour == 0 ? 100 : 250) + " 0 0;person a h 40 0 9;law turn 9;price 7;"
                    + "law lose warm - 250 + 150*(hour = " + ahead + ");");
                boolean night = hour >= 22 || hour <= 5;
                Hall.due("cold in " + hour, hall.night(1), night ? -7 : 0);
                Hall.due("cold in " + hour + ", a week", hall.night(7), night ? -49 : 0);
                hall.set(5);
                Hall.due("SET 5 as now", hall.night(1), 0);
            }
            // By 5 it is ON below 50.
            Hall.due("49: ON by night, too", Hall.of("room h 49 0 0;price 1;").night(1), 0);
            Hall.due("50: not by night", Hall.of("room h 50 0 0;price 1;").night(1), -8);
        });
        Edge.holds(22, "==== 3.", "NIGHT for n DAYS (24 HOURS each, from now on):", () -> {
            // Eight HOURS of 24, wherever they begin.
            KnobHall hall = Hall.of("room h 150 0 0;price 1;");
            for (int hour = 0; hour <= 24; hour++) {
                Hall.due("a day from HOUR " + hour + " on", hall.night(1), -8);
                Hall.due("a week from HOUR " + hour + " on", hall.night(7), -56);
                hall.go(1);
            }
        });
        Edge.holds(22, "NIGHT (n 1 .. 7; it may be below 0); Integer.MIN_VALUE: no such n.", () -> {
            KnobHall hall = Hall.of("room h 150 0 0;price 99;");
            Hall.due("night(1)", hall.night(1), -8 * 99);
            Hall.due("night(7)", hall.night(7), -56 * 99);
            Hall.due("night(0)", hall.night(0), Integer.MIN_VALUE);
            Hall.due("night(8)", hall.night(8), Integer.MIN_VALUE);
            for (int wrong : FAR_OFF) {
                Hall.due("night(" + wrong + ")", hall.night(wrong), Integer.MIN_VALUE);
            }
            Hall.due("above 0", Hall.of("room h 100 0 0;price 1;law lose 0 - 150*(set = 200)*(hour = 5);").night(1) > 0, true);
            Hall.due("of a new object", new KnobHall().night(7), 0);
            Hall.due("night(0) of a new object", new KnobHall().night(0), Integer.MIN_VALUE);
            asked("night(7)", other -> other.night(7));
            asked("night(8)", other -> other.night(8));
        });
    }

    private static void degree() {
        Edge.holds(24, "==== 3.", "DEGREE for n HOURS: what is PAID more by one degree more SET than by now's, nobody turning (30 at most: 0 there).", () -> {
            KnobHall hall = Hall.of("room h 290 0 0;person a h 40 0 0;law turn 9;price 7;knob 28 h;");
            Hall.due("29: 290 isn't below 290", hall.degree(9), 0);
            hall.set(29);
            Hall.due("30: 290 is below 300", hall.degree(9), 63);
            hall = Hall.of("room h 300 0 0;price 7;knob 30 h;");
            Hall.due("at 30", hall.degree(9), 0);
            hall.set(29);
            Hall.due("at 29", hall.degree(9), 0);
            hall = Hall.of("room h 50 0 0;price 7;knob 5 h;");
            Hall.due("at 5", hall.degree(9), 63);
        });
        Edge.holds(24, "DEGREE (n 1 .. 99; 0, if it would be below 0); NONE: no such n.", () -> {
            KnobHall hall = Hall.of("room h 200 0 0;price 7;");
            Hall.due("degree(1)", hall.degree(1), 7);
            Hall.due("degree(99)", hall.degree(99), 693);
            Hall.due("degree(0)", hall.degree(0), -1);
            Hall.due("degree(100)", hall.degree(100), -1);
            for (int wrong : FAR_OFF) {
                Hall.due("degree(" + wrong + ")", hall.degree(wrong), -1);
            }
            hall.set(30);
            Hall.due("degree(0) at 30", hall.degree(0), -1);
            Hall.due("degree(100) at 30", hall.degree(100), -1);
            // By 21 one HOUR of fire, by 20 all.
            hall = Hall.of("room h 100 0 0;price 7;law lose 0 - 300*(set > 200);");
            Hall.due("alike in 1", hall.degree(1), 0);
            Hall.due("below 0 in 2", hall.degree(2), 0);
            Hall.due("below 0 in 99", hall.degree(99), 0);
            Hall.due("of a new object", new KnobHall().degree(99), 0);
            asked("degree(99)", other -> other.degree(99));
            asked("degree(100)", other -> other.degree(100));
        });
    }

    private static void givesIn() {
        Edge.holds(28, "==== 3.", "GIVES IN: of two the one who loses least by SET of the other one's WANTS (CROSS more in 24 HOURS, nobody turning), the lesser number, if alike.", () -> {
            // Each is CROSS by how far SET is from what one WANTS.
            String wants = "room h 100 0 0;person a h 10 0 0;person b h 20 0 0;person c h 12 0 0;law turn 9;";
            KnobHall hall = Hall.of(wants + "law cross (set - wish)*(set - wish)/100;");
            Hall.due("alike", hall.givesIn(0, 1), 0);
            Hall.due("alike, the other way", hall.givesIn(1, 0), 0);
            Hall.due("alike, the last two", hall.givesIn(2, 1), 1);
            hall = Hall.of(wants + "law cross 1 + (wish = 100);");
            Hall.due("b by 24", hall.givesIn(0, 1), 1);
            Hall.due("b by 24, the other way", hall.givesIn(1, 0), 1);
            hall = Hall.of(wants + "law cross 1 + (wish = 200);");
            Hall.due("a by 24", hall.givesIn(1, 0), 0);
            // b is CROSS by 25, which SET was for an HOUR, and isn't by 10.
            hall = Hall.of("room h 100 0 0;person a h 10 0 0;person b h 20 0 0;law turn 0;knob 25 h;"
                + "law cross (wish = 100) + 99*(wish = 200)*(set = 250);");
            hall.go(1);
            Hall.due("more, not so far", hall.givesIn(0, 1), 1);
            // In one of 24 HOURS, the last one from now on.
            hall = Hall.of(wants + "law cross (wish = 100)*(hour = 23);");
            Hall.due("the 24th HOUR counts", hall.givesIn(0, 1), 1);
            hall = Hall.of(wants + "law cross (hour = 0)*(wish = 100) + (hour = 1)*(wish = 200);");
            Hall.due("the 25th doesn't", hall.givesIn(0, 1), 0);
        });
        Edge.holds(28, "GIVES IN; NONE: no such ones, alike.", () -> {
            KnobHall hall = Hall.of("room h 100 0 0;person a h 10 0 0;person b h 20 0 0;");
            Hall.due("givesIn(0, 1)", hall.givesIn(0, 1) >= 0, true);
            Hall.due("givesIn(0, 0)", hall.givesIn(0, 0), -1);
            Hall.due("givesIn(1, 1)", hall.givesIn(1, 1), -1);
            Hall.due("givesIn(2, 2)", hall.givesIn(2, 2), -1);
            Hall.due("givesIn(0, 2)", hall.givesIn(0, 2), -1);
            Hall.due("givesIn(2, 0)", hall.givesIn(2, 0), -1);
            for (int wrong : FAR_OFF) {
                Hall.due("givesIn(0, " + wrong + ")", hall.givesIn(0, wrong), -1);
                Hall.due("givesIn(" + wrong + ", 0)", hall.givesIn(wrong, 0), -1);
            }
            Hall.due("of a new object", new KnobHall().givesIn(0, 1), -1);
            asked("givesIn(0, 1)", other -> other.givesIn(0, 1));
            asked("givesIn(1, 1)", other -> other.givesIn(1, 1));
        });
    }

    private static void strip() {
        Edge.holds(31, "==== 3.", "STRIP of a ROOM for n HOURS: what is PAID less, if LEAK of the ROOM is half of it, cut (0 at least; nobody turning).", () -> {
            // By 20 it is ON, as long as less than 200: it stays, if LEAK by half is 1, and gets warm by 0.
            String house = "room h 199 # 0;room s 100 9 0;person a h 40 0 0;law turn 9;price 1;law lose leak - 1;";
            Hall.due("half of 1 is 0", Hall.of(house.replace("#", "1")).strip(0, 9), 8);
            Hall.due("half of 2 is 1", Hall.of(house.replace("#", "2")).strip(0, 9), 0);
            Hall.due("half of 3 is 1", Hall.of(house.replace("#", "3")).strip(0, 9), 0);
            Hall.due("half of 0 is 0", Hall.of(house.replace("#", "0")).strip(0, 9), 0);
            house = house.replace("leak - 1", "leak - 49");
            Hall.due("half of 97 is 48", Hall.of(house.replace("#", "97")).strip(0, 9), 8);
            Hall.due("half of 98 is 49", Hall.of(house.replace("#", "98")).strip(0, 9), 0);
            Hall.due("half of 99 is 49", Hall.of(house.replace("#", "99")).strip(0, 9), 0);
            Hall.due("of the other ROOM", Hall.of(house.replace("#", "97")).strip(1, 9), 0);
            Hall.due("without a law, half of 1", Hall.of("room h 200 1 0;out 0;price 1;").strip(0, 9), 8);
            KnobHall hall = Hall.of("room h 100 9 0;room s 200 1 0;out 0;price 7;knob 20 s;");
            hall.soon(0, 300, 5);
            Hall.due("of the second ROOM, eight HOURS of fire", hall.strip(1, 9), 56);
            Hall.due("of the first one", hall.strip(0, 9), 0);
            Hall.due("more is PAID: 0", Hall.of("room h 199 3 0;price 1;law lose 1 - leak;").strip(0, 9), 0);
        });
        Edge.holds(31, "STRIP (n 1 .. 99); NONE: no such ones.", () -> {
            KnobHall hall = Hall.of("room h 200 1 0;room s 100 1 0;out 0;price 1;");
            Hall.due("n 1", hall.strip(0, 1), 0);
            Hall.due("n 2", hall.strip(0, 2), 1);
            Hall.due("n 99", hall.strip(0, 99), 98);
            Hall.due("n 0", hall.strip(0, 0), -1);
            Hall.due("n 100", hall.strip(0, 100), -1);
            Hall.due("room 1", hall.strip(1, 99), 0);
            Hall.due("room 2", hall.strip(2, 99), -1);
            for (int wrong : FAR_OFF) {
                Hall.due("room " + wrong, hall.strip(wrong, 9), -1);
                Hall.due("n " + wrong, hall.strip(0, wrong), -1);
            }
            Hall.due("of a new object", new KnobHall().strip(0, 1), -1);
            asked("strip(0, 99)", other -> other.strip(0, 99));
            asked("strip(0, 100)", other -> other.strip(0, 100));
        });
    }
}
