/** Promises 35 to 38: wear, strike, known, lately. */
final class EdgesOfWear {
    private static final int[] FAR_OFF = {-2, -3, Integer.MIN_VALUE, Integer.MAX_VALUE};
    /** a passes in HOUR 7 and turns it by 3 less LATE: behind 8 HOURS SET is 23 - LATE. */
    private static final String HOUSE = "room h 100 0 10;person a h 20 2 7;person b h 20 0 23;law turn (wish = 200)*(felt - 150)/10*(hour = 7);";
    /** b, 3 LATE, turns it in HOUR 5, a, 2 LATE, in HOUR 7. */
    private static final String TWO = "room h 100 0 10;person a h 20 2 7;person b h 21 3 5;knob 24 h;"
        + "law turn (felt - 150)/10*(hour = 7) + (felt - 130)/10*(hour = 5);";
    /** a turns it up by 1 in each HOUR 11: behind 12, 36 and 60 HOURS. */
    private static final String ELEVEN = "room h 100 0 0;person a h 20 0 11;law turn 1;";

    private EdgesOfWear() { }

    static void hold() {
        wear();
        hours();
        twentyFour();
        strike();
        known();
        struck();
        lately();
    }

    private static KnobHall full() {
        KnobHall hall = Hall.of(HOUSE);
        for (int i = 0; i < 24; i++) {
            hall.wear(8, 5 + i, true);
        }
        return hall;
    }

    private static void wear() {
        Edge.holds(35, "WEAR (SET 5 .. 30): its number; NONE: no such ones, or there are 24.", () -> {
            KnobHall hall = Hall.of(HOUSE);
            Hall.due("SET 4", hall.wear(8, 4, true), -1);
            Hall.due("SET 31", hall.wear(8, 31, true), -1);
            Hall.due("SET 4, or less", hall.wear(8, 4, false), -1);
            Hall.due("hours 0", hall.wear(0, 20, true), -1);
            Hall.due("hours 61", hall.wear(61, 20, true), -1);
            Hall.due("SET 5", hall.wear(8, 5, true), 0);
            Hall.due("SET 30", hall.wear(8, 30, false), 1);
            Hall.due("hours 1", hall.wear(1, 20, true), 2);
            Hall.due("hours 60", hall.wear(60, 20, false), 3);
            Hall.due("the same again", hall.wear(60, 20, false), 4);
            Hall.due("WEAR", hall.count(12), 5);
            int[] wrong = {0, 61, -1, Integer.MIN_VALUE, Integer.MAX_VALUE};
            for (int number : wrong) {
                Edge.leaves("wear(" + number + ", 20)", Halls::rich, other ->
                    Hall.due("hours " + number, other.wear(number, 20, true), -1));
                Edge.leaves("wear(3, " + number + ")", Halls::rich, other ->
                    Hall.due("SET " + number, other.wear(3, number, false), -1));
            }
            Edge.leaves("wear(3, 4)", Halls::rich, other -> Hall.due("SET 4", other.wear(3, 4, false), -1));
            Edge.leaves("wear(3, 31)", Halls::rich, other -> Hall.due("SET 31", other.wear(3, 31, true), -1));
            Hall.due("the 24th", full().count(12), 24);
            Hall.due("the 25th", full().wear(8, 20, true), -1);
            Edge.leaves("the 25th", EdgesOfWear::full, other -> Hall.due("wear", other.wear(8, 5, false), -1));
            Hall.due("of a new object", new KnobHall().wear(1, 5, true), 0);
        });
    }

    private static void hours() {
        Edge.holds(35, "==== 3.", "behind so many HOURS 1 .. 60 (as it goes from the TEXT on) SET was at least so much, or less.", () -> {
            // LATE 0: SET 23 behind 8 HOURS, LATE 5: 18.
            for (int set = 17; set <= 25; set++) {
                int bits = 0;
                for (int late = 0; late <= 5; late++) {
                    bits |= 23 - late >= set ? 1 << late : 0;
                }
                KnobHall hall = Hall.of(HOUSE);
                hall.wear(8, set, true);
                Hall.due("at least " + set, hall.lately(0), bits);
                hall = Hall.of(HOUSE);
                hall.wear(8, set, false);
                Hall.due("less than " + set, hall.lately(0), 63 - bits);
            }
            eleven(1, 20);
            eleven(11, 20);
            eleven(12, 21);
            eleven(35, 21);
            eleven(36, 22);
            eleven(59, 22);
            eleven(60, 23);
            KnobHall several = Hall.of(ELEVEN);
            several.wear(1, 20, true);
            several.wear(12, 21, true);
            several.wear(60, 23, true);
            several.wear(12, 22, false);
            Hall.due("each behind its own HOURS", several.lately(0), 63);
            several.wear(59, 23, true);
            Hall.due("but one", several.lately(0), 0);
            KnobHall hall = Hall.of(ELEVEN.replace(" 11;", " 0;"));
            hall.wear(1, 21, true);
            hall.wear(1, 22, false);
            Hall.due("turned in HOUR 0", hall.lately(0), 63);
            // Calls, and HOURS that went by, are not as it goes from the TEXT on.
            hall = Hall.of(HOUSE);
            hall.set(30);
            hall.go(9);
            hall.jumper(0, true);
            hall.candle(true);
            hall.wear(8, 23, true);
            Hall.due("from the TEXT on", hall.lately(0), 1);
        });
    }

    /** Behind so many HOURS SET was that. */
    private static void eleven(int hours, int set) {
        KnobHall hall = Hall.of(ELEVEN);
        hall.wear(hours, set, true);
        hall.wear(hours, set + 1, false);
        Hall.due("behind " + hours + " HOURS " + set, hall.lately(0), 63);
        hall.wear(hours, set + 1, true);
        Hall.due("not " + (set + 1), hall.lately(0), 0);
        hall.strike(2);
        hall.wear(hours, set, false);
        Hall.due("nor less than " + set, hall.lately(0), 0);
    }

    private static void twentyFour() {
        Edge.holds(35, "==== 3.", "WEAR, at most 24, numbered from 0 on:", () -> {
            KnobHall hall = Hall.of(HOUSE);
            for (int i = 0; i < 24; i++) {
                Hall.due("number " + i, i % 3 == 2 ? hall.strike(i - 1) : hall.wear(1, 5, true), i);
            }
            Hall.due("no 25th", hall.wear(1, 5, true), -1);
            Hall.due("no 25th STRIKE", hall.strike(23), -1);
            Hall.due("count(12)", hall.count(12), 24);
            // The last one counts, too.
            hall = Hall.of(HOUSE);
            for (int i = 0; i < 23; i++) {
                hall.wear(8, 5, true);
            }
            hall.wear(8, 23, true);
            Hall.due("by the 24th", hall.lately(0), 1);
        });
    }

    private static void strike() {
        Edge.holds(36, "A STRIKE: its number; NONE: no such one of WEAR, or there are 24.", () -> {
            KnobHall hall = Hall.of(HOUSE);
            Hall.due("of none", hall.strike(0), -1);
            hall.wear(8, 23, true);
            Hall.due("one that is to come", hall.strike(1), -1);
            Hall.due("number 0", hall.strike(0), 1);
            Hall.due("the STRIKE itself", hall.strike(1), 2);
            Hall.due("number 0 again", hall.strike(0), 3);
            Hall.due("number 4", hall.strike(4), -1);
            Hall.due("number 3", hall.strike(3), 4);
            for (int wrong : FAR_OFF) {
                Edge.leaves("strike(" + wrong + ")", Halls::rich, other -> Hall.due("strike", other.strike(wrong), -1));
            }
            Edge.leaves("strike(-1)", Halls::rich, other -> Hall.due("strike", other.strike(-1), -1));
            Edge.leaves("strike(3) of three", Halls::rich, other -> Hall.due("strike", other.strike(3), -1));
            Edge.leaves("strike(0) of 24", EdgesOfWear::full, other -> Hall.due("strike", other.strike(0), -1));
            Edge.leaves("strike(24) of 24", EdgesOfWear::full, other -> Hall.due("strike", other.strike(24), -1));
            Hall.due("of a new object", new KnobHall().strike(0), -1);
        });
    }

    private static void known() {
        Edge.holds(37, "KNOWN by n from now on (-1: by all, also those to come): true; false: no such n.", () -> {
            KnobHall hall = Hall.of(HOUSE);
            Hall.due("known(0) of none", hall.known(0), true);
            Hall.due("known(1) of none", hall.known(1), false);
            hall.wear(8, 23, true);
            hall.wear(8, 24, true);
            Hall.due("by 0 still", hall.lately(0), 63);
            Hall.due("known(1)", hall.known(1), true);
            Hall.due("by 1", hall.lately(0), 1);
            Hall.due("known(1) again", hall.known(1), true);
            Hall.due("known(2)", hall.known(2), true);
            Hall.due("by 2", hall.lately(0), 0);
            Hall.due("known(3) of two", hall.known(3), false);
            hall.strike(1);
            Hall.due("by 2, not the STRIKE to come", hall.lately(0), 0);
            Hall.due("known(-1)", hall.known(-1), true);
            Hall.due("by all", hall.lately(0), 1);
            hall.strike(0);
            Hall.due("also those to come", hall.lately(0), 63);
            Hall.due("known(4) of four", hall.known(4), true);
            Hall.due("known(5) of four", hall.known(5), false);
            Hall.due("known(24) of 24", full().known(24), true);
            Hall.due("known(25) of 24", full().known(25), false);
            Hall.due("known(-1) of none", new KnobHall().known(-1), true);
            for (int wrong : FAR_OFF) {
                Edge.leaves("known(" + wrong + ")", Halls::rich, other -> Hall.due("known", other.known(wrong), false));
            }
            Edge.leaves("known(4) of three", Halls::rich, other -> Hall.due("known", other.known(4), false));
            Edge.leaves("known(25) of 24", EdgesOfWear::full, other -> Hall.due("known", other.known(25), false));
        });
    }

    private static void struck() {
        Edge.holds(37, "==== 3.", "KNOWN by n (all at first): the first n that aren't STRUCK by one of these (a STRIKE may be STRUCK: then it doesn't count; asked from the last one on).", () -> {
            KnobHall hall = Hall.of(HOUSE);
            hall.wear(8, 23, true);
            Hall.due("all at first", hall.lately(0), 1);
            // Each one strikes the one ahead: the first one is STRUCK by an odd number of them.
            for (int i = 0; i < 23; i++) {
                hall.strike(i);
                Hall.due("behind " + (i + 1) + " STRIKES", hall.lately(0), i % 2 == 0 ? 63 : 1);
            }
            for (int n = 0; n <= 24; n++) {
                hall.known(n);
                Hall.due("by " + n, hall.lately(0), n % 2 == 0 ? 63 : 1);
            }
            hall = Hall.of(HOUSE);
            hall.wear(8, 23, true);
            hall.strike(0);
            hall.strike(0);
            hall.strike(1);
            Hall.due("by the second one still", hall.lately(0), 63);
            hall.strike(2);
            Hall.due("both STRUCK", hall.lately(0), 1);
            hall.known(4);
            Hall.due("by 4 one of both", hall.lately(0), 63);
        });
    }

    private static void lately() {
        Edge.holds(38, "==== 3.", "LATELY for a PERSON: how LATE 0 .. 5 (bits) that one may feel, in place of what is told, by which all KNOWN ones are so.", () -> {
            KnobHall hall = Hall.of(HOUSE);
            Hall.due("none KNOWN", hall.lately(0), 63);
            for (int late = 0; late <= 5; late++) {
                hall = Hall.of(HOUSE);
                hall.wear(8, 23 - late, true);
                hall.wear(8, 24 - late, false);
                Hall.due("LATE " + late + " alone", hall.lately(0), 1 << late);
                // b changes nothing: by a's LATE as told, 2, it is so or it isn't.
                Hall.due("of b", hall.lately(1), late == 2 ? 63 : 0);
            }
            for (int late = 0; late <= 5; late++) {
                // Each turns it by 3 less LATE: behind 6 HOURS SET is 27 less b's LATE, behind 8 it is 30 less both.
                hall = Hall.of(TWO);
                hall.wear(6, 27 - late, true);
                hall.wear(6, 28 - late, false);
                Hall.due("of b alone, LATE " + late, hall.lately(1), 1 << late);
                Hall.due("of a, b being as told", hall.lately(0), late == 3 ? 63 : 0);
                hall = Hall.of(TWO);
                hall.wear(8, 27 - late, true);
                hall.wear(8, 28 - late, false);
                Hall.due("of a by both, LATE " + late, hall.lately(0), 1 << late);
                Hall.due("of b by both", hall.lately(1), late == 5 ? 0 : 2 << late);
            }
            hall = Hall.of(HOUSE);
            hall.wear(8, 24, true);
            Hall.due("by none", hall.lately(0), 0);
            Hall.due("what is told stays", hall.person(0, 2), 2);
        });
        Edge.holds(38, "LATELY (bit k: k HOURS); NONE: no such PERSON.", () -> {
            KnobHall hall = Hall.of(HOUSE);
            hall.wear(8, 18, true);
            Hall.due("all six", hall.lately(0), 63);
            hall.wear(8, 19, false);
            Hall.due("bit 5", hall.lately(0), 32);
            Hall.due("person 1", hall.lately(1), 0);
            Hall.due("person 2", hall.lately(2), -1);
            Hall.due("person -1", hall.lately(-1), -1);
            for (int wrong : FAR_OFF) {
                Hall.due("person " + wrong, hall.lately(wrong), -1);
            }
            Hall.due("of a new object", new KnobHall().lately(0), -1);
            // Whatever was tried ahead of it.
            hall.soon(0, 300, 5);
            hall.tried(3, 0, 9);
            hall.tried(2, 0, 9);
            hall.strip(0, 9);
            hall.chance(1, 9, 0, 100);
            Hall.due("as before", hall.lately(0), 32);
            hall.soon(0, 300, 5);
            Hall.due("behind a question in which nobody turns", hall.lately(0), 32);
            hall.tried(4, 0, 9);
            Hall.due("behind one in which nothing is lost", hall.lately(0), 32);
            Edge.leaves("lately(0)", Halls::rich, other -> other.lately(0));
            Edge.leaves("lately(2)", Halls::rich, other -> Hall.due("lately", other.lately(2), -1));
        });
    }
}
