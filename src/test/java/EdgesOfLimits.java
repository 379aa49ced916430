/** Sentences that name no edge of their own, at the least and the greatest that the limits of others leave. */
final class EdgesOfLimits {
    private static final String HOURS = "==== 2.";
    private static final String QUESTIONS = "==== 3.";
    private static final String ROOMS = "room a 0 0 0;room b 100 1 1;room c 200 2 2;room d 300 3 3;room e 400 99 99;";
    /** All pass in HOUR 0. */
    private static final String PEOPLE = "person a a 0 0 0;person b b 10 1 0;person c c 20 2 0;person d d 30 3 0;person e e 40 5 0;";
    /** By 29 down to 20, by 20 up to 29, whoever turns. */
    private static final String TO_AND_FRO = "law turn 9 - 18*(set > 200);";

    private EdgesOfLimits() { }

    static void hold() {
        rooms();
        turns();
        nextHour();
        namesOfRooms();
        namesOfAll();
        ahead();
        tillThen();
        tried();
        numbers();
        person();
        crossAndJumper();
        room();
        law();
        drawn();
        strikeOfOne();
        counts();
    }

    private static KnobHall full(String more) {
        return Hall.of(ROOMS + PEOPLE + more);
    }

    /** In HOUR 9900. */
    private static KnobHall last(String text) {
        KnobHall hall = Hall.of(text);
        for (int i = 0; i < 100; i++) {
            hall.go(99);
        }
        return hall;
    }

    private static void warm(KnobHall hall, int... want) {
        for (int room = 0; room < want.length; room++) {
            Hall.due("WARM of " + room, hall.room(room, 0), want[room]);
        }
    }

    private static void rooms() {
        Edge.holds(14, HOURS, "(2) all ROOMS at once: WARM is more by HEAT, if the stove is ON, and SUN of this HOUR on it,", () -> {
            KnobHall hall = full("sun e 0 99;sun e 1 99;sun a 0 1;sun a 23 7;law lose 0;");
            hall.go(1);
            warm(hall, 1, 101, 202, 303, 598);
            hall.go(1);
            warm(hall, 1, 102, 204, 306, 600);
            hall = full("sun a 23 7;law lose 0;knob 10 b;");
            hall.go(1);
            warm(hall, 0, 100, 200, 300, 400);
            // What the knob hears is looked at ahead of all rooms, the first one or the last one.
            String[] knobs = {"knob 20 h;", "knob 20 t;"};
            for (String knob : knobs) {
                hall = Hall.of("room h 199 0 1;room s 100 0 10;room t 199 0 1;" + knob);
                hall.go(1);
                warm(hall, 200, 110, 200);
                hall.go(1);
                warm(hall, 200, 110, 200);
            }
        });
    }

    private static void turns() {
        Edge.holds(14, HOURS, "by numbers who passes at this HOUR of the day", () -> {
            KnobHall hall = full("knob 27 a;law turn 1;");
            hall.go(1);
            Hall.due("28, 29, 30 and no more", hall.count(4), 30);
            for (int person = 0; person < 5; person++) {
                Hall.due("turnsOf(" + person + ")", hall.turnsOf(person, 0), person < 3 ? 1 : 0);
            }
            hall.set(20);
            hall.go(22);
            Hall.due("nobody passes in 1 .. 22", hall.count(4), 20);
            hall.go(1);
            Hall.due("nor in 23", hall.count(4), 20);
            hall.go(1);
            Hall.due("all do in 24", hall.count(4), 25);
            // Each sees it as those ahead left it: 29, 20, 29, 20, 29.
            hall = full(TO_AND_FRO);
            Hall.due("the other way four times", hall.swings(1), 4);
            hall.go(1);
            Hall.due("SET", hall.count(4), 29);
            Hall.due("TURNS", hall.count(10), 5);
            Hall.due("the mean of 127 by 5", hall.learn(0), 25);
        });
    }

    private static void nextHour() {
        Edge.holds(14, HOURS, "Then it is the next HOUR.", () -> {
            String text = "room h 0 0 0;knob 5 h;law lose warm - outer;";
            for (int out = 1; out <= 8; out++) {
                text += "out " + out + ";";
            }
            KnobHall hall = last(text);
            Hall.due("the last one", hall.count(3), 9900);
            Hall.due("OUT of 9899", hall.room(0, 0), 9899 % 8 + 1);
            // Questions go on behind it, and behind 9999: OUT is as told there, too.
            int[] hours = {0, 1, 99, 100, 101, 102, 108, 109, 199, 200};
            for (int n : hours) {
                Hall.due("OUT of " + (9899 + n), hall.ahead(n, 0, 0), (9899 + n) % 8 + 1);
            }
            hall = last("room h 0 0 0;knob 5 h;law lose warm - hour;");
            for (int n : hours) {
                Hall.due("of the day of " + (9899 + n), hall.ahead(n, 0, 0), (9899 + n) % 24);
            }
        });
    }

    private static void namesOfRooms() {
        Edge.holds(9, HOURS, "NAMES: warm: WARM of the ROOM (of turn, cross that of where one sits); outer: OUT of this HOUR;", () -> {
            KnobHall hall = Hall.of("room h 0 0 0;room s 400 0 0;person a s 20 5 9;person b h 20 5 9;out 0;out 400;knob 5 h;"
                + "law lose warm*1000 + outer;law turn warm*1000 + outer;law cross warm*1000 + outer;");
            Hall.due("0 and 0", hall.law(0, 0), 0);
            Hall.due("400 and 0", hall.law(0, 1), 400000);
            for (int what = 1; what <= 2; what++) {
                Hall.due("in the second ROOM", hall.law(what, 0), 400000);
                Hall.due("in the first ROOM", hall.law(what, 1), 0);
            }
            hall.go(1);
            Hall.due("0 and 400", hall.law(0, 1), 400);
            Hall.due("WARM is as it is, whatever one FEELS", hall.law(1, 0) * 1000 + hall.person(0, 4), 400400);
            hall.go(1);
            Hall.due("OUT again from the first one on", hall.law(0, 0), 0);
            hall = Hall.of("room h 400 0 0;knob 5 h;law lose 0 - warm;");
            hall.go(1);
            Hall.due("600", hall.law(0, 0), -600);
        });
    }

    private static void namesOfAll() {
        Edge.holds(9, HOURS, "set: ten times SET; leak: LEAK of that ROOM; hour: the HOUR of the day.", () -> {
            String formula = "set*100*100 + leak*100 + hour;";
            KnobHall hall = Hall.of("room h 0 0 0;room s 0 99 0;person a s 0 0 0;knob 5 h;law lose " + formula + "law cross " + formula);
            Hall.due("50, 0, 0", hall.law(0, 0), 500000);
            Hall.due("50, 99, 0", hall.law(0, 1), 509900);
            Hall.due("of where one sits", hall.law(2, 0), 509900);
            hall.set(30);
            Hall.due("300, 0, 0", hall.law(0, 0), 3000000);
            hall.go(23);
            Hall.due("300, 99, 23", hall.law(2, 0), 3009923);
            hall.go(1);
            Hall.due("300, 99, 0", hall.law(2, 0), 3009900);
        });
    }

    private static void ahead() {
        Edge.holds(15, QUESTIONS, "AHEAD for n HOURS: WARM of a ROOM, PAID more, CROSS more of all, TURNS more.", () -> {
            KnobHall hall = full("price 99;law cross 9999;law lose 0 - 9999*(leak = 99);" + TO_AND_FRO);
            for (int times = 0; times < 2; times++) {
                Hall.due("the first ROOM", hall.ahead(200, 0, 0), 0);
                Hall.due("the last one", hall.ahead(200, 0, 4), 600);
                Hall.due("PAID for 200", hall.ahead(200, 1, 0), 200 * 99);
                Hall.due("CROSS of five", hall.ahead(200, 2, 0), 200 * 5 * 999);
                // HOURS 0, 24 .. 192 or, from 24 on, 24 .. 216.
                Hall.due("TURNS of five", hall.ahead(200, 3, 0), 9 * 5);
                hall.go(24);
            }
        });
    }

    private static void tillThen() {
        Edge.holds(21, QUESTIONS, "BACK for a ROOM, tenths, n HOURS: SET being 5 till then,", () -> {
            // A tenth more in each HOUR by 5, in none by 30.
            KnobHall hall = Hall.of("room h 100 0 0;law lose 0 - (set = 50);");
            hall.set(30);
            Hall.due("by 5 in all", hall.onAgain(0, 199, 99), 99);
            Hall.due("one more", hall.onAgain(0, 200, 99), -2);
            Hall.due("by 5 in none of 0", hall.onAgain(0, 100, 0), 0);
            Hall.due("nor is it more", hall.onAgain(0, 101, 0), -2);
            // A tenth more in each HOUR by 30, in none by 5.
            hall = Hall.of("room h 100 0 0;law lose 0 - (set = 300);");
            Hall.due("5 in none", hall.onAgain(0, 199, 99), 0);
            Hall.due("5 in one", hall.onAgain(0, 198, 99), 1);
            Hall.due("5 in all but one", hall.onAgain(0, 101, 99), 98);
            Hall.due("5 in all", hall.onAgain(0, 100, 99), 99);
        });
    }

    private static void tried() {
        Edge.holds(40, QUESTIONS, "TRIED for n HOURS as it goes: CROSS more of all:", () -> {
            KnobHall hall = full("law cross 9999;");
            for (int times = 0; times < 2; times++) {
                for (int what = 0; what <= 4; what++) {
                    Hall.due("tried(" + what + ", 0, 99)", hall.tried(what, 0, 99), 99 * 999 * (what == 2 ? 4 : 5));
                }
                Hall.due("the last one isn't there", hall.tried(2, 4, 99), 99 * 999 * 4);
                hall.go(99);
            }
        });
    }

    private static void numbers() {
        Edge.holds(5, "The number of a ROOM (what 0), PERSON (1) by its letters,", () -> {
            KnobHall hall = full("");
            for (int number = 0; number < 5; number++) {
                Hall.due("ROOM " + number, hall.named(0, number + 1 << 25), number);
                Hall.due("PERSON " + number, hall.named(1, number + 1 << 25), number);
            }
            Hall.due("no sixth ROOM", hall.named(0, 6 << 25), -1);
            Hall.due("no sixth PERSON", hall.named(1, 6 << 25), -1);
        });
    }

    private static void person() {
        Edge.holds(6, "Of a PERSON now, what 0 the ROOM, 1 WANTS, 2 LATE, 3 when it passes,", () -> {
            KnobHall hall = Hall.of(ROOMS + "person a a 0 0 0;person b e 40 5 23;person c b 0 0 0;");
            int[][] told = {{0, 0, 0, 0}, {4, 40, 5, 23}, {1, 0, 0, 0}};
            for (int times = 0; times < 2; times++) {
                for (int person = 0; person < told.length; person++) {
                    for (int what = 0; what < 4; what++) {
                        Hall.due("person(" + person + ", " + what + ")", hall.person(person, what), told[person][what]);
                    }
                }
                hall.go(30);
            }
        });
    }

    private static void crossAndJumper() {
        Edge.holds(6, "5 CROSS, 6 a JUMPER (1, 0).", () -> {
            KnobHall hall = full("law cross 9999*(wish = 400);");
            for (int person = 0; person < 5; person++) {
                Hall.due("CROSS at first", hall.person(person, 5), 0);
                Hall.due("no JUMPER at first", hall.person(person, 6), 0);
            }
            hall.jumper(4, true);
            hall.go(99);
            Hall.due("CROSS of the last one", hall.person(4, 5), 99 * 999);
            Hall.due("of the one ahead", hall.person(3, 5), 0);
            Hall.due("a JUMPER of the last one", hall.person(4, 6), 1);
            Hall.due("none of the one ahead", hall.person(3, 6), 0);
            hall = full("law lose 0;law cross felt*(wish = 400);knob 5 e;");
            hall.jumper(4, true);
            Hall.due("FELT by the last one with it", hall.ahead(1, 2, 0), 420);
            hall = last("room h 0 0 0;person a h 0 0 0;law cross 9999;");
            Hall.due("CROSS in 9900 HOURS", hall.person(0, 5), 9900 * 999);
            Hall.due("of all", hall.count(11), 9900 * 999);
        });
    }

    private static void room() {
        Edge.holds(7, "Of a ROOM now, what 0 WARM, 1 LEAK, 2 HEAT, 3 SUN of this HOUR.", () -> {
            KnobHall hall = full("sun e 0 99;sun e 0 99;sun e 0 99;sun e 23 99;law lose 0 - 400*(leak = 99);knob 5 e;");
            int[][] told = {{0, 0, 0, 0}, {400, 99, 99, 297}};
            for (int what = 0; what < 4; what++) {
                Hall.due("room(0, " + what + ")", hall.room(0, what), told[0][what]);
                Hall.due("room(4, " + what + ")", hall.room(4, what), told[1][what]);
            }
            hall.go(1);
            Hall.due("WARM now", hall.room(4, 0), 600);
            Hall.due("LEAK still", hall.room(4, 1), 99);
            Hall.due("HEAT still", hall.room(4, 2), 99);
            Hall.due("no SUN of HOUR 1", hall.room(4, 3), 0);
            hall.go(22);
            Hall.due("SUN of HOUR 23", hall.room(4, 3), 99);
            hall.go(1);
            Hall.due("SUN of HOUR 24", hall.room(4, 3), 297);
        });
    }

    private static void law() {
        Edge.holds(9, "A law's E now (what 0 lose of a ROOM; 1 turn, 2 cross of a PERSON by what it FEELS).", () -> {
            KnobHall hall = Hall.of("room h 0 0 10;person a h 0 0 9;person b h 40 5 9;knob 30 h;law lose felt + wish;"
                + "law turn felt;law cross felt*1000 + wish;");
            for (int hours = 0; hours <= 7; hours++) {
                int late = 10 * Math.max(0, hours - 5);
                Hall.due("lose of HOUR " + hours, hall.law(0, 0), 0);
                Hall.due("turn, LATE 0", hall.law(1, 0), 10 * hours);
                Hall.due("turn, LATE 5", hall.law(1, 1), late);
                Hall.due("cross, LATE 0", hall.law(2, 0), 10000 * hours);
                Hall.due("cross, LATE 5", hall.law(2, 1), 1000 * late + 400);
                hall.jumper(1, true);
                Hall.due("turn with a JUMPER", hall.law(1, 1), late + 20);
                hall.undo();
                hall.go(1);
            }
        });
    }

    private static void drawn() {
        Edge.holds(39, "In how many of ten times drawn", () -> {
            KnobHall hall = Hall.of("out 200;room h 200 0 0;knob 5 h;law lose warm - outer - 100;");
            for (int seed = 0; seed < 5; seed++) {
                int ahead = 10;
                boolean some = false;
                // OUT is 150 .. 250, WARM by 100 more.
                Hall.due("all of them", hall.chance(seed, 3, 0, 250), 10);
                for (int tenths = 250; tenths <= 351; tenths++) {
                    int times = hall.chance(seed, 3, 0, tenths);
                    Hall.due("no more than by less tenths", times <= ahead && times >= 0, true);
                    some |= times > 0 && times < 10;
                    ahead = times;
                }
                Hall.due("some of them", some, true);
                Hall.due("none of them", ahead, 0);
            }
        });
    }

    private static void strikeOfOne() {
        Edge.holds(36, QUESTIONS, "A STRIKE of one.", () -> {
            // SET is 20 behind each HOUR: 21 at least isn't so.
            for (int one = 0; one < 3; one++) {
                KnobHall hall = Hall.of("room h 200 0 0;person a h 20 0 0;");
                for (int number = 0; number < 3; number++) {
                    hall.wear(1 + number, number == one ? 21 : 20, true);
                }
                Hall.due("one of them isn't so", hall.lately(0), 0);
                for (int number = 0; number < 3; number++) {
                    if (number != one) {
                        hall.strike(number);
                        Hall.due("STRUCK another one", hall.lately(0), 0);
                    }
                }
                hall.strike(one);
                Hall.due("STRUCK that one", hall.lately(0), 63);
            }
        });
    }

    private static void counts() {
        Edge.holds(44, "0 ROOMS, 1 PEOPLE,", () -> {
            String rooms = "";
            String people = "";
            for (int number = 0; number <= 5; number++) {
                KnobHall hall = Hall.of(rooms + people);
                Hall.due("ROOMS", hall.count(0), number);
                Hall.due("PEOPLE", hall.count(1), number);
                rooms += "room " + (char) ('a' + number) + " 1 1 1;";
                people += "person " + (char) ('a' + number) + " a 1 1 1;";
            }
        });
        Edge.holds(44, "3 the HOUR, 4 SET,", () -> {
            KnobHall hall = last("room h 0 0 0;knob 5 h;");
            Hall.due("the last HOUR", hall.count(3), 9900);
            Hall.due("the least SET", hall.count(4), 5);
            hall.set(30);
            Hall.due("the highest SET", hall.count(4), 30);
            Hall.tell(hall, "room h 0 0 0;knob 30 h;");
            Hall.due("the first HOUR", hall.count(3), 0);
            Hall.due("the highest SET told", hall.count(4), 30);
        });
        Edge.holds(44, "8 PAID, 9 HOURS of fire,", () -> {
            KnobHall hall = last("room h 0 0 0;price 99;");
            Hall.due("PAID in 9900 HOURS", hall.count(8), 9900 * 99);
            Hall.due("fire in 9900 HOURS", hall.count(9), 9900);
            hall.go(1);
            Hall.due("none behind it", hall.count(9), 9900);
            hall.text(0);
            Hall.due("none of a new text", hall.count(8) + hall.count(9), 0);
        });
    }
}
