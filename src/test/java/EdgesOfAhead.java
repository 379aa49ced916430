import java.util.function.Consumer;

/** Promises 15 to 17, 23, 25, 30, 33 and 34: ahead, soon, quicker, swings, learn, turnsOf, apart, feels. */
final class EdgesOfAhead {
    private static final int[] FAR_OFF = {-1, -2, Integer.MIN_VALUE, Integer.MAX_VALUE};
    /** A tenth more an HOUR, whatever the knob. */
    private static final String RISING = "room h 100 0 0;room s 50 9 0;person a h 12 0 0;person b s 20 5 1;law lose (leak = 9) - 1;";
    /** a turns it up in HOUR 0, b down in HOUR 1. */
    private static final String TO_AND_FRO = "room h 100 0 0;person a h 20 0 0;person b h 0 0 1;";

    private EdgesOfAhead() { }

    static void hold() {
        ahead();
        soon();
        quicker();
        swings();
        learn();
        turnsOf();
        apart();
        feels();
    }

    /** A question changes nothing, whatever it answers. */
    private static void asked(String call, Consumer<KnobHall> question) {
        Edge.leaves(call, Halls::rich, question);
        Edge.leaves(call + " of a new object", KnobHall::new, question);
    }

    private static void ahead() {
        Edge.holds(15, "AHEAD (n 0 .. 200), what 0 WARM of a ROOM, 1 PAID, 2 CROSS, 3 TURNS", () -> {
            KnobHall hall = Hall.of(RISING + "price 2;law turn 1;law cross 3;");
            hall.go(1);
            // HOUR 1 now: 101 is below 210 till 210; b passes in 1, 25 and so on, a in 24, 48 and so on.
            Hall.due("WARM now", hall.ahead(0, 0, 0), 101);
            Hall.due("WARM of the other one", hall.ahead(0, 0, 1), 50);
            Hall.due("WARM in 199", hall.ahead(199, 0, 0), 300);
            Hall.due("WARM in 200", hall.ahead(200, 0, 0), 301);
            Hall.due("PAID more now", hall.ahead(0, 1, 0), 0);
            Hall.due("PAID more in 1", hall.ahead(1, 1, 0), 2);
            Hall.due("CROSS more now", hall.ahead(0, 2, 0), 0);
            Hall.due("CROSS more in 200", hall.ahead(200, 2, 0), 1200);
            Hall.due("TURNS more now", hall.ahead(0, 3, 0), 0);
            Hall.due("TURNS more in 1", hall.ahead(1, 3, 0), 1);
            // 21 by now, 30 behind nine more.
            Hall.due("TURNS more in 200", hall.ahead(200, 3, 0), 9);
            asked("ahead(200, 2, 0)", other -> other.ahead(200, 2, 0));
        });
        Edge.holds(15, "(the ROOM isn't looked at of 1 .. 3).", () -> {
            KnobHall hall = Hall.of(RISING + "law cross 3;");
            int[] rooms = {1, 2, -1, Integer.MIN_VALUE, Integer.MAX_VALUE};
            for (int what = 1; what <= 3; what++) {
                for (int room : rooms) {
                    Hall.due("ahead(9, " + what + ", " + room + ")", hall.ahead(9, what, room), hall.ahead(9, what, 0));
                    Hall.due("of a new object", new KnobHall().ahead(9, what, room), 0);
                }
            }
            Hall.due("CROSS", hall.ahead(9, 2, -1), 54);
        });
        Edge.holds(15, "NONE: no such ones.", () -> {
            KnobHall hall = Hall.of(RISING);
            for (int what = 0; what <= 3; what++) {
                Hall.due("ahead(201, " + what + ", 0)", hall.ahead(201, what, 0), -1);
            }
            Hall.due("ahead(1, 4, 0)", hall.ahead(1, 4, 0), -1);
            Hall.due("ahead(1, 0, 1)", hall.ahead(1, 0, 1), 50);
            Hall.due("ahead(1, 0, 2)", hall.ahead(1, 0, 2), -1);
            Hall.due("of a new object", new KnobHall().ahead(1, 0, 0), -1);
            for (int wrong : FAR_OFF) {
                Hall.due("n " + wrong, hall.ahead(wrong, 1, 0), -1);
                Hall.due("what " + wrong, hall.ahead(1, wrong, 0), -1);
                Hall.due("room " + wrong, hall.ahead(1, 0, wrong), -1);
            }
            asked("ahead(201, 0, 0)", other -> other.ahead(201, 0, 0));
        });
    }

    private static void soon() {
        Edge.holds(16, "==== 3.", "SOON for a ROOM and tenths: in how many HOURS, 200 at most, it is so WARM at least, if the knob were SET so and nobody turned it (0: it is now).", () -> {
            KnobHall hall = Hall.of(RISING + "law turn 9;");
            Hall.due("99", hall.soon(0, 99, 5), 0);
            Hall.due("100, now", hall.soon(0, 100, 5), 0);
            Hall.due("101", hall.soon(0, 101, 5), 1);
            Hall.due("299", hall.soon(0, 299, 5), 199);
            Hall.due("300", hall.soon(0, 300, 5), 200);
            Hall.due("301", hall.soon(0, 301, 5), -2);
            KnobHall stove = Hall.of("room h 100 0 50;person a h 40 0 0;law turn 9;");
            Hall.due("by 10 it isn't ON", stove.soon(0, 101, 10), -2);
            Hall.due("by 11 it is", stove.soon(0, 101, 11), 1);
            Hall.due("by 30, four HOURS", stove.soon(0, 300, 30), 4);
            Hall.due("more there isn't", stove.soon(0, 301, 30), -2);
        });
        Edge.holds(16, "SOON (tenths 0 .. 600, SET 5 .. 30); -2: not by then; NONE: no such ones.", () -> {
            KnobHall hall = Hall.of("room h 400 0 0;room s 0 9 0;law lose 0 - 200*(leak = 0);");
            Hall.due("tenths 600", hall.soon(0, 600, 5), 1);
            Hall.due("tenths 601", hall.soon(0, 601, 5), -1);
            Hall.due("tenths 0", hall.soon(1, 0, 5), 0);
            Hall.due("tenths 1", hall.soon(1, 1, 30), -2);
            Hall.due("SET 30", hall.soon(0, 401, 30), 1);
            Hall.due("SET 31", hall.soon(0, 401, 31), -1);
            Hall.due("SET 5", hall.soon(0, 401, 5), 1);
            Hall.due("SET 4", hall.soon(0, 401, 4), -1);
            Hall.due("room 2", hall.soon(2, 1, 20), -1);
            Hall.due("room 2, tenths 0", hall.soon(2, 0, 20), -1);
            Hall.due("of a new object", new KnobHall().soon(0, 0, 20), -1);
            for (int wrong : FAR_OFF) {
                Hall.due("room " + wrong, hall.soon(wrong, 1, 20), -1);
                Hall.due("tenths " + wrong, hall.soon(0, wrong, 20), -1);
                Hall.due("SET " + wrong, hall.soon(0, 1, wrong), -1);
            }
            asked("soon(0, 600, 30)", other -> other.soon(0, 600, 30));
            asked("soon(0, 601, 30)", other -> other.soon(0, 601, 30));
        });
    }

    private static void quicker() {
        // By 5 .. 9 a tenth an HOUR, by 10 .. 14 two and so on.
        String house = "room h 100 0 0;person a h 0 0 0;law turn 9;law lose 0 - set/50;";
        Edge.holds(17, "==== 3.", "QUICKER for a ROOM, tenths, two SETS: whether it is SOON by the second one earlier than by the first one (one that is not by 200 is later than all).", () -> {
            KnobHall hall = Hall.of(house);
            Hall.due("200 and 100 HOURS", hall.quicker(0, 300, 5, 10), 1);
            Hall.due("100 and 200", hall.quicker(0, 300, 10, 5), 0);
            Hall.due("200 and 200", hall.quicker(0, 300, 5, 9), 0);
            Hall.due("never and 101", hall.quicker(0, 301, 5, 10), 1);
            Hall.due("101 and never", hall.quicker(0, 301, 10, 5), 0);
            Hall.due("never and never", hall.quicker(0, 301, 5, 9), 0);
            Hall.due("never and 200", hall.quicker(0, 500, 5, 10), 1);
            Hall.due("200 and never", hall.quicker(0, 500, 10, 5), 0);
            Hall.due("now and now", hall.quicker(0, 100, 5, 30), 0);
            // 34 HOURS by 30, 40 by 25.
            Hall.due("higher is quicker", hall.quicker(0, 300, 25, 30), 1);
            Hall.due("lower isn't", hall.quicker(0, 300, 30, 25), 0);
            Hall.due("an HOUR less", hall.quicker(0, 102, 5, 10), 1);
            Hall.due("one HOUR both", hall.quicker(0, 101, 5, 10), 0);
            // The first ROOM is so WARM now.
            hall = Hall.of("room s 400 9 0;room h 100 0 0;law lose (leak = 0)*(0 - set/50);");
            Hall.due("of the second ROOM", hall.quicker(1, 300, 5, 10), 1);
            Hall.due("the other way", hall.quicker(1, 300, 10, 5), 0);
            Hall.due("of the first one", hall.quicker(0, 300, 5, 10), 0);
        });
        Edge.holds(17, "QUICKER (1, 0); NONE: no such ones.", () -> {
            KnobHall hall = Hall.of(house);
            Hall.due("SETS 5 and 30", hall.quicker(0, 300, 5, 30), 1);
            Hall.due("SETS 30 and 5", hall.quicker(0, 300, 30, 5), 0);
            Hall.due("the first 4", hall.quicker(0, 300, 4, 30), -1);
            Hall.due("the first 31", hall.quicker(0, 300, 31, 5), -1);
            Hall.due("the second 4", hall.quicker(0, 300, 30, 4), -1);
            Hall.due("the second 31", hall.quicker(0, 300, 5, 31), -1);
            Hall.due("tenths 0", hall.quicker(0, 0, 5, 30), 0);
            Hall.due("tenths 600", hall.quicker(0, 600, 5, 30), 1);
            Hall.due("tenths 601", hall.quicker(0, 601, 5, 30), -1);
            Hall.due("room 1", hall.quicker(1, 300, 5, 30), -1);
            Hall.due("of a new object", new KnobHall().quicker(0, 0, 5, 30), -1);
            for (int wrong : FAR_OFF) {
                Hall.due("room " + wrong, hall.quicker(wrong, 300, 5, 30), -1);
                Hall.due("tenths " + wrong, hall.quicker(0, wrong, 5, 30), -1);
                Hall.due("the first " + wrong, hall.quicker(0, 300, wrong, 30), -1);
                Hall.due("the second " + wrong, hall.quicker(0, 300, 5, wrong), -1);
            }
            asked("quicker(0, 300, 5, 30)", other -> other.quicker(0, 300, 5, 30));
            asked("quicker(0, 300, 5, 31)", other -> other.quicker(0, 300, 5, 31));
        });
    }

    private static void swings() {
        Edge.holds(23, "==== 3.", "SWINGS for n HOURS as it goes: how often SET is turned (so that it is another one) the other way than the last time in these.", () -> {
            KnobHall hall = Hall.of(TO_AND_FRO);
            Hall.due("up", hall.swings(1), 0);
            Hall.due("up, down", hall.swings(2), 1);
            hall.go(1);
            Hall.due("down, up was ahead of these", hall.swings(1), 0);
            Hall.due("down, up in HOUR 24", hall.swings(24), 1);
            hall = Hall.of("room h 100 0 0;person a h 20 0 0;person b h 20 0 1;person c h 0 0 2;knob 29 h;");
            // 30, no turn, 29.
            Hall.due("what isn't another one is no way", hall.swings(3), 1);
            hall.set(30);
            Hall.due("no turn, no turn, down", hall.swings(3), 0);
            hall = Hall.of("room h 100 0 0;person a h 0 0 0;person b h 10 0 1;person c h 0 0 2;person d h 20 0 3;");
            Hall.due("down, nothing, down, up", hall.swings(4), 1);
        });
        Edge.holds(23, "SWINGS (n 1 .. 200); NONE: no such n.", () -> {
            KnobHall hall = Hall.of(TO_AND_FRO);
            Hall.due("swings(1)", hall.swings(1), 0);
            Hall.due("swings(193), up in HOUR 192", hall.swings(193), 16);
            Hall.due("swings(194), down in HOUR 193", hall.swings(194), 17);
            hall.go(18);
            // HOURS 18 .. 217: up in 24, 48 .. 216, down behind each.
            Hall.due("swings(199)", hall.swings(199), 16);
            Hall.due("swings(200)", hall.swings(200), 17);
            Hall.due("swings(0)", hall.swings(0), -1);
            Hall.due("swings(201)", hall.swings(201), -1);
            for (int wrong : FAR_OFF) {
                Hall.due("swings(" + wrong + ")", hall.swings(wrong), -1);
            }
            Hall.due("of a new object", new KnobHall().swings(200), 0);
            Hall.due("swings(0) of a new object", new KnobHall().swings(0), -1);
            asked("swings(200)", other -> other.swings(200));
            asked("swings(201)", other -> other.swings(201));
        });
    }

    private static void learn() {
        Edge.holds(25, "==== 3.", "LEARN: the mean of the SETS to which people turned the knob (so that it was another one) at an HOUR of the day so far, cut.", () -> {
            KnobHall hall = Hall.of("room h 100 0 0;person a h 40 0 0;person b h 40 0 0;knob 27 h;");
            hall.go(1);
            Hall.due("28 and 29, cut", hall.learn(0), 28);
            hall.go(24);
            Hall.due("and 30 once, not twice", hall.learn(0), 29);
            hall.go(24);
            Hall.due("30 is no other", hall.learn(0), 29);
            hall.set(20);
            Hall.due("nor is it by call", hall.learn(1), -2);
            hall.go(24);
            Hall.due("28, 29, 30, 21, 22: 26", hall.learn(0), 26);
            hall = Hall.of("room h 100 0 0;person a h 0 0 0;person b h 0 0 0;knob 6 h;");
            hall.go(1);
            Hall.due("5 once", hall.learn(0), 5);
        });
        Edge.holds(25, "LEARN (an HOUR 0 .. 23); -2: it never was; NONE: no such one.", () -> {
            KnobHall hall = Hall.of("room h 100 0 0;person a h 20 0 0;person b h 20 0 23;");
            for (int hour = 0; hour < 24; hour++) {
                Hall.due("learn(" + hour + ")", hall.learn(hour), -2);
            }
            hall.go(24);
            Hall.due("learn(0)", hall.learn(0), 21);
            Hall.due("learn(23)", hall.learn(23), 22);
            for (int hour = 1; hour < 23; hour++) {
                Hall.due("learn(" + hour + ")", hall.learn(hour), -2);
            }
            Hall.due("learn(24)", hall.learn(24), -1);
            for (int wrong : FAR_OFF) {
                Hall.due("learn(" + wrong + ")", hall.learn(wrong), -1);
            }
            Hall.due("of a new object", new KnobHall().learn(23), -2);
            Hall.due("learn(24) of a new object", new KnobHall().learn(24), -1);
            asked("learn(1)", other -> other.learn(1));
            asked("learn(24)", other -> other.learn(24));
        });
    }

    private static void turnsOf() {
        Edge.holds(30, "How often a PERSON turned the knob (so that it was another SET) so far (n 0), or will in n HOURS (1 .. 200) as it goes; NONE: no such ones.", () -> {
            KnobHall hall = Hall.of(TO_AND_FRO + "knob 29 h;");
            Hall.due("so far", hall.turnsOf(0, 0), 0);
            Hall.due("in 1", hall.turnsOf(0, 1), 1);
            Hall.due("b in 1", hall.turnsOf(1, 1), 0);
            Hall.due("b in 2", hall.turnsOf(1, 2), 1);
            Hall.due("in 192", hall.turnsOf(0, 192), 8);
            Hall.due("in 193", hall.turnsOf(0, 193), 9);
            hall.go(17);
            // HOURS 17 .. 216.
            Hall.due("so far then", hall.turnsOf(0, 0), 1);
            Hall.due("in 199, not those so far", hall.turnsOf(0, 199), 8);
            Hall.due("in 200", hall.turnsOf(0, 200), 9);
            Hall.due("in 201", hall.turnsOf(0, 201), -1);
            Hall.due("person 1", hall.turnsOf(1, 0), 1);
            Hall.due("person 2", hall.turnsOf(2, 0), -1);
            Hall.due("person 2 in 9", hall.turnsOf(2, 9), -1);
            for (int wrong : FAR_OFF) {
                Hall.due("n " + wrong, hall.turnsOf(0, wrong), -1);
                Hall.due("person " + wrong, hall.turnsOf(wrong, 0), -1);
            }
            hall.set(30);
            Hall.due("at 30 no more", hall.turnsOf(0, 8), 0);
            Hall.due("of a new object", new KnobHall().turnsOf(0, 0), -1);
            asked("turnsOf(0, 200)", other -> other.turnsOf(0, 200));
            asked("turnsOf(0, 201)", other -> other.turnsOf(0, 201));
        });
    }

    private static void apart() {
        Edge.holds(33, "The HOUR from now on (0: as it is now), n 0 .. 200 at most, behind which as it goes the warmest ROOM is farthest from the coldest one, the first of several (what 0), how far (1).", () -> {
            KnobHall hall = Hall.of(RISING);
            hall.go(3);
            Hall.due("now", hall.apart(0, 0), 0);
            Hall.due("how far now", hall.apart(0, 1), 53);
            Hall.due("in 1", hall.apart(1, 0), 1);
            Hall.due("how far in 1", hall.apart(1, 1), 54);
            Hall.due("in 199", hall.apart(199, 0), 199);
            Hall.due("in 200", hall.apart(200, 0), 200);
            Hall.due("how far in 200", hall.apart(200, 1), 253);
            hall = Hall.of("room h 100 0 0;room s 150 9 0;knob 5 h;law lose (leak = 0)*(10 - 20*(hour = 2));");
            // 50, 60, 70, 60, 70 and so on.
            Hall.due("the first of several", hall.apart(4, 0), 2);
            Hall.due("how far", hall.apart(4, 1), 70);
            Hall.due("then farther", hall.apart(5, 0), 5);
            hall = Hall.of("room h 100 0 0;room s 150 9 0;");
            Hall.due("always alike", hall.apart(200, 0), 0);
            Hall.due("one room", Hall.of("room h 100 0 9;").apart(200, 0), 0);
            Hall.due("no room", new KnobHall().apart(200, 0), 0);
            Hall.due("how far, no room", new KnobHall().apart(200, 1), 0);
        });
        Edge.holds(33, "NONE: no such ones.", () -> {
            KnobHall hall = Hall.of(RISING);
            Hall.due("apart(201, 0)", hall.apart(201, 0), -1);
            Hall.due("apart(201, 1)", hall.apart(201, 1), -1);
            Hall.due("apart(0, 2)", hall.apart(0, 2), -1);
            for (int wrong : FAR_OFF) {
                Hall.due("n " + wrong, hall.apart(wrong, 0), -1);
                Hall.due("what " + wrong, hall.apart(0, wrong), -1);
            }
            Hall.due("of a new object", new KnobHall().apart(201, 0), -1);
            asked("apart(200, 0)", other -> other.apart(200, 0));
            asked("apart(201, 0)", other -> other.apart(201, 0));
        });
    }

    private static void feels() {
        Edge.holds(34, "In how many HOURS, n 1 .. 99 at most, a PERSON FEELS ten times WANTS at least as it goes (0: now); -2: not by then; NONE: no such ones.", () -> {
            // 100 and a tenth an HOUR: a wants 120, b sits where it stays 50.
            KnobHall hall = Hall.of(RISING);
            Hall.due("in 20 of 20", hall.feels(0, 20), 20);
            Hall.due("in 20 of 99", hall.feels(0, 99), 20);
            Hall.due("not in 19", hall.feels(0, 19), -2);
            Hall.due("b never", hall.feels(1, 99), -2);
            hall.go(19);
            Hall.due("119: in 1", hall.feels(0, 1), 1);
            hall.go(1);
            Hall.due("120: now", hall.feels(0, 1), 0);
            Hall.due("121: now", hall.go(1) * 10 + hall.feels(0, 99), 210);
            Hall.due("feels(0, 0)", hall.feels(0, 0), -1);
            Hall.due("feels(0, 100)", hall.feels(0, 100), -1);
            Hall.due("feels(2, 1)", hall.feels(2, 1), -1);
            for (int wrong : FAR_OFF) {
                Hall.due("n " + wrong, hall.feels(0, wrong), -1);
                Hall.due("person " + wrong, hall.feels(wrong, 1), -1);
            }
            hall = Hall.of("room h 101 0 0;person a h 20 0 0;person b h 20 1 0;law lose 0 - 1;");
            Hall.due("in 99", hall.feels(0, 99), 99);
            Hall.due("not in 98", hall.feels(0, 98), -2);
            Hall.due("an HOUR late, not in 99", hall.feels(1, 99), -2);
            hall.jumper(1, true);
            Hall.due("by 20 of a JUMPER in 80", hall.feels(1, 99), 80);
            hall = Hall.of("room h 101 0 0;person a h 40 0 0;person b h 12 0 0;law lose 0 - 1;");
            Hall.due("each by what it WANTS", hall.feels(1, 99), 19);
            Hall.due("the other one not", hall.feels(0, 99), -2);
            Hall.due("of a new object", new KnobHall().feels(0, 1), -1);
            asked("feels(0, 99)", other -> other.feels(0, 99));
            asked("feels(0, 100)", other -> other.feels(0, 100));
        });
    }
}
