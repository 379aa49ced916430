/** Halls of which much can be seen, for tests that look whether a call changed something. */
final class Halls {
    static final String HOUSE = "room h 180 10 20;room s 200 20 30;person a h 20 0 1;person b s 22 1 1;sun s 3 40;out 100;"
        + "out 60;knob 20 h;price 5;law lose (warm - outer)*leak/100;law turn (felt < wish) - (felt > wish);";
    static final int LINES = 11;

    private Halls() { }

    /** At HOUR 5, an image of HOUR 3, four to undo, WEAR of three, KNOWN by two, a FAULT, a tape of 40. */
    static KnobHall rich() {
        KnobHall hall = Hall.of(HOUSE);
        hall.go(3);
        hall.jumper(1, true);
        hall.keep();
        hall.go(2);
        hall.set(17);
        hall.hang(1);
        hall.candle(true);
        hall.jumper(0, true);
        hall.wear(3, 20, true);
        hall.wear(5, 21, false);
        hall.strike(0);
        hall.known(2);
        Hall.tell(hall, "out 401;");
        hall.feed(0x6f757420, 0x373b6f75, 0x7420383b, 0x6f757420, 0x393b2020);
        hall.feed(0x20202020, 0x20202020, 0x20202020, 0x20202020, 0x20202021);
        return hall;
    }

    /** At HOUR 9860, SET turned by call, an image of HOUR 0. */
    static KnobHall late() {
        KnobHall hall = Hall.of("room h 100 1 1;person a h 20 1 3;out 90;out 120;");
        hall.keep();
        for (int i = 0; i < 99; i++) {
            hall.go(99);
        }
        hall.go(59);
        hall.set(25);
        return hall;
    }
}
