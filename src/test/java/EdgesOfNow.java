/** Promises 6 to 9, 29, 32 and 44: person, room, out, law, crossest, spread, count. */
final class EdgesOfNow {
    private static final int[] FAR_OFF = {-1, -2, Integer.MIN_VALUE, Integer.MAX_VALUE};
    private static final long ERROR = Long.MIN_VALUE;
    /** Five rooms and five people. */
    private static final String FULL = "room a 10 1 1;room b 20 2 2;room c 30 3 3;room d 40 4 4;room e 50 5 5;"
        + "person a e 11 1 1;person b d 12 2 2;person c c 13 3 3;person d b 14 4 4;person e a 15 5 5;sun e 0 9;";

    private EdgesOfNow() { }

    static void hold() {
        person();
        room();
        out();
        law();
        crossest();
        spread();
        count();
    }

    private static void person() {
        Edge.holds(6, "4 what it FEELS (as behind the latest (2))", () -> {
            KnobHall hall = Hall.of("room h 100 0 10;person a h 20 0 9;person b h 20 1 9;knob 30 h;");
            Hall.due("without an HOUR, as told", hall.person(0, 4) * 1000 + hall.person(1, 4), 100100);
            hall.go(1);
            Hall.due("behind the first one", hall.person(0, 4) * 1000 + hall.person(1, 4), 110100);
            hall.go(1);
            Hall.due("behind the second one", hall.person(0, 4) * 1000 + hall.person(1, 4), 120110);
        });
        Edge.holds(6, "IndexOutOfBoundsException: no such PERSON.", () -> {
            KnobHall hall = Hall.of(FULL);
            Hall.due("the last one", Hall.person(hall, 4, 0), 0);
            Hall.due("person(5, 0)", Hall.person(hall, 5, 0), -1000);
            for (int wrong : FAR_OFF) {
                for (int what = 0; what < 7; what++) {
                    Hall.due("person(" + wrong + ", " + what + ")", Hall.person(hall, wrong, what), -1000);
                }
            }
            Hall.due("of a new object", Hall.person(new KnobHall(), 0, 0), -1000);
            Hall.due("of one person", Hall.person(Hall.of("room h 1 1 1;person a h 1 1 1;"), 1, 0), -1000);
            Hall.due("neither such a what", Hall.person(hall, 5, 7), -1000);
            Edge.leaves("person(2, 0)", Halls::rich, other -> Hall.person(other, 2, 0));
        });
        Edge.holds(6, "NoSuchElementException: no such what.", () -> {
            KnobHall hall = Hall.of(FULL);
            Hall.due("the first", Hall.person(hall, 1, 0), 3);
            Hall.due("the last", Hall.person(hall, 1, 6), 0);
            Hall.due("person(1, 7)", Hall.person(hall, 1, 7), -1001);
            for (int wrong : FAR_OFF) {
                Hall.due("person(0, " + wrong + ")", Hall.person(hall, 0, wrong), -1001);
            }
            Edge.leaves("person(0, 7)", Halls::rich, other -> Hall.person(other, 0, 7));
        });
    }

    private static void room() {
        Edge.holds(7, "NONE: no such ones.", () -> {
            KnobHall hall = Hall.of(FULL);
            int[] told = {50, 5, 5, 9};
            for (int what = 0; what < 4; what++) {
                Hall.due("room(4, " + what + ")", hall.room(4, what), told[what]);
                Hall.due("room(5, " + what + ")", hall.room(5, what), -1);
                for (int wrong : FAR_OFF) {
                    Hall.due("room(" + wrong + ", " + what + ")", hall.room(wrong, what), -1);
                }
                Hall.due("of a new object", new KnobHall().room(0, what), -1);
            }
            Hall.due("room(0, 4)", hall.room(0, 4), -1);
            for (int wrong : FAR_OFF) {
                Hall.due("room(0, " + wrong + ")", hall.room(0, wrong), -1);
            }
            Hall.due("room 1 of one", Hall.of("room h 7 7 7;").room(1, 0), -1);
            Edge.leaves("room", Halls::rich, other -> Hall.due("room(2, 4)", other.room(2, 4), -1));
        });
    }

    private static void out() {
        Edge.holds(8, "OUT of an HOUR 0 up to 9999; NONE: no such one.", () -> {
            KnobHall hall = Hall.of("out 10;out 20;out 0;");
            Hall.due("out(0)", hall.out(0), 10);
            Hall.due("out(9998)", hall.out(9998), 0);
            Hall.due("out(9999)", hall.out(9999), 10);
            Hall.due("out(10000)", hall.out(10000), -1);
            for (int wrong : FAR_OFF) {
                Hall.due("out(" + wrong + ")", hall.out(wrong), -1);
                Hall.due("of a new object", new KnobHall().out(wrong), -1);
            }
            Hall.due("out(9999) of a new object", new KnobHall().out(9999), 100);
            Hall.due("out(10000) of a new object", new KnobHall().out(10000), -1);
            Edge.leaves("out", Halls::rich, other -> Hall.due("out(10000)", other.out(10000), -1));
        });
    }

    private static void law() {
        Edge.holds(9, "Long.MIN_VALUE: an ERROR, no such law, no such ones.", () -> {
            String laws = "law lose warm;law turn 100*wish;law cross 100*felt;";
            KnobHall hall = Hall.of(FULL + laws);
            Hall.due("lose of the last one", hall.law(0, 4), 50);
            Hall.due("turn of the last one", hall.law(1, 4), 15000);
            Hall.due("cross of the last one", hall.law(2, 4), 1000);
            for (int what = 0; what < 3; what++) {
                Hall.due("law(" + what + ", 5)", hall.law(what, 5), ERROR);
                for (int wrong : FAR_OFF) {
                    Hall.due("law(" + what + ", " + wrong + ")", hall.law(what, wrong), ERROR);
                }
            }
            Hall.due("law(3, 0)", hall.law(3, 0), ERROR);
            for (int wrong : FAR_OFF) {
                Hall.due("law(" + wrong + ", 0)", hall.law(wrong, 0), ERROR);
            }
            KnobHall untold = Hall.of(FULL);
            Hall.due("lose isn't told", untold.law(0, 0), ERROR);
            Hall.due("turn isn't told", untold.law(1, 0), ERROR);
            Hall.due("cross isn't told", untold.law(2, 0), ERROR);
            KnobHall nobody = Hall.of("room h 1 1 1;" + laws);
            Hall.due("turn of nobody", nobody.law(1, 0), ERROR);
            Hall.due("cross of nobody", nobody.law(2, 0), ERROR);
            Hall.due("lose without a ROOM", Hall.of(laws).law(0, 0), ERROR);
            KnobHall wrong = Hall.of("room h 1 1 1;person a h 1 1 1;law lose 1/0;law turn 1/felt;law cross 1/(felt-1);");
            Hall.due("lose by 0", wrong.law(0, 0), ERROR);
            Hall.due("turn by 1", wrong.law(1, 0), 1);
            Hall.due("cross by 0", wrong.law(2, 0), ERROR);
            // E itself, not what is left of it in an HOUR.
            KnobHall beyond = Hall.of("room h 1 1 1;person a h 1 1 1;law lose 401;law turn 0-10;law cross 1000;");
            Hall.due("lose", beyond.law(0, 0), 401);
            Hall.due("turn", beyond.law(1, 0), -10);
            Hall.due("cross", beyond.law(2, 0), 1000);
            Edge.leaves("law", Halls::rich, other -> other.law(2, 5));
        });
    }

    private static void crossest() {
        Edge.holds(29, "The PERSON who is most CROSS, the first of several; NONE: there is none.", () -> {
            Hall.due("of a new object", new KnobHall().crossest(), -1);
            Hall.due("rooms alone", Hall.of("room h 1 1 1;").crossest(), -1);
            KnobHall hall = Hall.of(FULL + "law cross (wish = 130)*2 + (wish = 150)*2 + (wish = 120);");
            Hall.due("all at 0", hall.crossest(), 0);
            hall.go(1);
            Hall.due("the third and the last alike", hall.crossest(), 2);
            hall = Hall.of(FULL + "law cross (wish = 130) + (wish = 150)*2;");
            hall.go(1);
            Hall.due("the last one", hall.crossest(), 4);
            Hall.due("one alone", Hall.of("room h 1 1 1;person a h 1 1 1;").crossest(), 0);
        });
    }

    private static void spread() {
        Edge.holds(32, "How far the warmest ROOM is from the coldest one now, tenths; 0 without ROOMS.", () -> {
            Hall.due("without ROOMS", new KnobHall().spread(), 0);
            Hall.due("one", Hall.of("room h 400 1 1;").spread(), 0);
            Hall.due("alike", Hall.of("room h 7 1 1;room s 7 1 1;").spread(), 0);
            Hall.due("the farthest", Hall.of("room h 400 1 1;room s 0 1 1;").spread(), 400);
            Hall.due("the other way", Hall.of("room h 0 1 1;room s 400 1 1;").spread(), 400);
            Hall.due("the last is the warmest", Hall.of(FULL).spread(), 40);
            Hall.due("the last is the coldest", Hall.of("room h 9 1 1;room s 9 1 1;room t 8 1 1;").spread(), 1);
            KnobHall hall = Hall.of("room h 400 0 0;room s 0 1 0;knob 5 h;law lose 400 - 800*(leak = 0);");
            hall.go(1);
            Hall.due("0 and 600", hall.spread(), 600);
            Hall.tell(hall, "room s 3 3 3;");
            Hall.due("rooms of the text ahead aren't", hall.spread(), 0);
        });
    }

    private static void count() {
        Edge.holds(44, "5 which ROOM it hears (NONE without ROOMS)", () -> {
            Hall.due("of a new object", new KnobHall().count(5), -1);
            Hall.due("a text without", Hall.of("price 1;").count(5), -1);
            Hall.due("one", Hall.of("room h 1 1 1;").count(5), 0);
            Hall.due("the last", Hall.of(FULL + "knob 9 e;").count(5), 4);
            KnobHall hall = Hall.of(FULL + "knob 9 e;");
            Hall.tell(hall, "price 1;");
            Hall.due("without any more", hall.count(5), -1);
        });
        Edge.holds(44, "6 a CANDLE (1, 0), 7 whether the stove would be ON now (1, 0)", () -> {
            KnobHall hall = Hall.of("room h 150 1 1;");
            Hall.due("no CANDLE, ON", hall.count(6) * 10 + hall.count(7), 1);
            hall.candle(true);
            Hall.due("a CANDLE, not ON", hall.count(6) * 10 + hall.count(7), 10);
            Hall.due("no fire by asking", hall.count(9), 0);
        });
        Edge.holds(44, "10 TURNS, 11 CROSS of all", () -> {
            Hall.due("of nobody", new KnobHall().count(10) + new KnobHall().count(11), 0);
            KnobHall hall = Hall.of(FULL + "law turn 1;law cross wish;");
            hall.go(5);
            Hall.due("four of five passed", hall.count(10), 4);
            Hall.due("of all five, in 5 HOURS", hall.count(11), 5 * (110 + 120 + 130 + 140 + 150));
            Hall.due("more of all five", hall.ahead(1, 2, 0), 650);
            hall.set(30);
            hall.go(1);
            Hall.due("30 is no other SET", hall.count(10), 4);
        });
        Edge.holds(44, "2 KNOTS", () -> {
            Hall.due("none", Hall.of("room h 1 1 1;").count(2), 0);
            Hall.due("of all E", Hall.of("law lose 1;law turn 1+1;law cross not (warm < 2);").count(2), 8);
        });
        Edge.holds(44, "12 WEAR, 13 by how many it is KNOWN, 14 what can be undone.", () -> {
            KnobHall hall = Hall.of(FULL);
            Hall.due("at first", hall.count(12) + hall.count(13) + hall.count(14), 0);
            hall.wear(1, 5, true);
            hall.strike(0);
            Hall.due("a STRIKE is counted, too", hall.count(12), 2);
            hall.known(0);
            Hall.due("by 0", hall.count(13), 0);
            hall.known(2);
            Hall.due("by 2", hall.count(13), 2);
            hall.set(21);
            Hall.due("one to undo", hall.count(14), 1);
        });
        Edge.holds(44, "NONE for another what.", () -> {
            KnobHall hall = Halls.rich();
            Hall.due("count(0)", hall.count(0), 2);
            Hall.due("count(14)", hall.count(14), 4);
            Hall.due("count(15)", hall.count(15), -1);
            for (int wrong : FAR_OFF) {
                Hall.due("count(" + wrong + ")", hall.count(wrong), -1);
                Edge.leaves("count(" + wrong + ")", Halls::rich, other -> other.count(wrong));
            }
        });
    }
}
