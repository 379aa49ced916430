/** Promises 15 to 17, 23, 25, 30, 33 and 34: ahead, soon, quicker, swings, learn, turnsOf, apart, feels. */
public final class AheadTest {
    /** Two who turn it to and fro in the hour 1. */
    private static final String QUARREL = "room h 150 0 0;person a h 20 0 1;person b h 10 2 1;out 150;price 7;knob 25 h;";

    public static void main(String[] args) {
        ahead();
        soon();
        quicker();
        swings();
        learning();
        turnsOf();
        apart();
        feels();
        Hall.end();
    }

    private static void ahead() {
        KnobHall hall = Hall.of(NowTest.HOUSE);
        int[][] due = {{189, 25, 18, 2}, {163, 25, 18, 2}};
        for (int room = 0; room < 2; room++) {
            for (int what = 0; what < 4; what++) {
                Hall.due("ahead(8, " + what + ", " + room + ")", hall.ahead(8, what, room), due[room][what]);
            }
        }
        Hall.due("nothing changes", hall.count(3) + hall.count(8) + hall.count(10) + hall.count(11), 0);
        hall.go(4);
        Hall.due("PAID more", hall.ahead(4, 1, 0), 10);
        Hall.due("CROSS more", hall.ahead(4, 2, 0), 13);
        Hall.due("TURNS more", hall.ahead(4, 3, 0), 2);
        Hall.due("now", hall.ahead(0, 0, 1), 187);
        Hall.due("nothing more now", hall.ahead(0, 2, 0), 0);
        Hall.due("the room isn't looked at", hall.ahead(4, 1, 99), 10);
        Hall.due("no room", hall.ahead(4, 0, 2), -1);
        Hall.due("room -1", hall.ahead(4, 0, -1), -1);
        Hall.due("what 4", hall.ahead(4, 4, 0), -1);
        Hall.due("what -1", hall.ahead(4, -1, 0), -1);
        Hall.due("n 201", hall.ahead(201, 1, 0), -1);
        Hall.due("n -1", hall.ahead(-1, 1, 0), -1);
        int warm = hall.ahead(99, 0, 0);
        int far = hall.ahead(200, 0, 1);
        hall.go(99);
        Hall.due("as it came", hall.room(0, 0), warm);
        hall.go(99);
        hall.go(2);
        Hall.due("as it came far off", hall.room(1, 0), far);
    }

    private static void soon() {
        KnobHall hall = Hall.of(NowTest.HOUSE);
        Hall.due("now", hall.soon(0, 180, 5), 0);
        Hall.due("soon 181", hall.soon(0, 181, 20), 1);
        Hall.due("soon 193", hall.soon(0, 193, 20), 2);
        Hall.due("soon 210", hall.soon(0, 210, 20), 3);
        Hall.due("never by 5", hall.soon(0, 181, 5), -2);
        Hall.due("no room", hall.soon(2, 181, 20), -1);
        Hall.due("room -1", hall.soon(-1, 181, 20), -1);
        Hall.due("tenths -1", hall.soon(0, -1, 20), -1);
        Hall.due("tenths 601", hall.soon(0, 601, 20), -1);
        Hall.due("tenths 600", hall.soon(0, 600, 20), -2);
        Hall.due("SET 4", hall.soon(0, 181, 4), -1);
        Hall.due("SET 31", hall.soon(0, 181, 31), -1);
        hall = Hall.of("room h 100 0 1;person a h 0 0 0;");
        Hall.due("200 hours, nobody turning", hall.soon(0, 300, 30), 200);
        Hall.due("not by then", hall.soon(0, 301, 30), -2);
        Hall.due("SET stays", hall.count(4), 20);
    }

    private static void quicker() {
        KnobHall hall = Hall.of(NowTest.HOUSE);
        Hall.due("higher isn't quicker", hall.quicker(0, 200, 20, 30), 0);
        Hall.due("nor lower", hall.quicker(0, 200, 30, 20), 0);
        Hall.due("never is later", hall.quicker(0, 200, 5, 20), 1);
        Hall.due("than all", hall.quicker(0, 200, 20, 5), 0);
        Hall.due("both never", hall.quicker(0, 600, 20, 30), 0);
        Hall.due("the last hour and never", Hall.of("room h 100 0 1;").quicker(0, 300, 5, 30), 1);
        hall = Hall.of("room h 100 0 9;law lose 8 - set/50;");
        Hall.due("some law makes it quicker", hall.quicker(0, 120, 20, 30), 1);
        Hall.due("no room", hall.quicker(1, 200, 20, 30), -1);
        Hall.due("tenths", hall.quicker(0, 601, 20, 30), -1);
        Hall.due("tenths -1", hall.quicker(0, -1, 20, 30), -1);
        Hall.due("the first SET", hall.quicker(0, 200, 4, 30), -1);
        Hall.due("the second SET", hall.quicker(0, 200, 20, 31), -1);
        Hall.due("the second SET 4", hall.quicker(0, 200, 20, 4), -1);
    }

    private static void swings() {
        KnobHall hall = Hall.of(QUARREL);
        Hall.due("swings(1)", hall.swings(1), 0);
        Hall.due("swings(2)", hall.swings(2), 1);
        Hall.due("swings(26)", hall.swings(26), 3);
        Hall.due("swings(0)", hall.swings(0), -1);
        Hall.due("swings(201)", hall.swings(201), -1);
        Hall.due("swings(200)", hall.swings(200), 17);
        hall.go(2);
        Hall.due("the last time was not in these", hall.swings(24), 1);
        hall = Hall.of("room h 150 0 0;person a h 20 0 1;person b h 10 0 2;person c h 10 0 3;person d h 20 0 4;");
        Hall.due("up, down, down, up", hall.swings(5), 2);
        hall = Hall.of("room h 150 0 0;person a h 20 0 1;person b h 10 0 2;person c h 20 0 3;knob 30 h;");
        Hall.due("what changes nothing is no turn", hall.swings(3), 0);
        Hall.due("30, 29, 30", hall.swings(4), 1);
    }

    private static void learning() {
        KnobHall hall = Hall.of(QUARREL);
        hall.set(24);
        Hall.due("by call isn't by people", hall.learn(0), -2);
        hall.go(2);
        Hall.due("25 and 24, cut", hall.learn(1), 24);
        Hall.due("never at 2", hall.learn(2), -2);
        hall.set(30);
        hall.go(24);
        Hall.due("25, 24 and 29 (30 was no turn)", hall.learn(1), 26);
        Hall.due("learn(23)", hall.learn(23), -2);
        Hall.due("learn(24)", hall.learn(24), -1);
        Hall.due("learn(-1)", hall.learn(-1), -1);
    }

    private static void turnsOf() {
        KnobHall hall = Hall.of(QUARREL);
        Hall.due("so far", hall.turnsOf(0, 0), 0);
        Hall.due("in an hour", hall.turnsOf(0, 1), 0);
        Hall.due("in two", hall.turnsOf(0, 2), 1);
        Hall.due("b's in two days", hall.turnsOf(1, 48), 2);
        Hall.due("in 200", hall.turnsOf(1, 200), 9);
        hall.go(2);
        Hall.due("so far then", hall.turnsOf(0, 0), 1);
        Hall.due("more in 23", hall.turnsOf(0, 23), 0);
        Hall.due("more in 24", hall.turnsOf(0, 24), 1);
        Hall.due("no person", hall.turnsOf(2, 0), -1);
        Hall.due("person -1", hall.turnsOf(-1, 0), -1);
        Hall.due("n -1", hall.turnsOf(0, -1), -1);
        Hall.due("n 201", hall.turnsOf(0, 201), -1);
        hall.set(30);
        hall.go(24);
        Hall.due("30 is no other SET", hall.turnsOf(0, 0), 1);
        Hall.due("29 is", hall.turnsOf(1, 0), 2);
    }

    private static void apart() {
        KnobHall hall = Hall.of(NowTest.HOUSE);
        Hall.due("now", hall.apart(0, 0), 0);
        Hall.due("how far now", hall.apart(0, 1), 20);
        Hall.due("the first of several", hall.apart(3, 0), 0);
        Hall.due("behind eight hours", hall.apart(8, 0), 8);
        Hall.due("how far then", hall.apart(8, 1), 26);
        hall.go(4);
        Hall.due("from now on", hall.apart(4, 0), 4);
        Hall.due("what 2", hall.apart(4, 2), -1);
        Hall.due("what -1", hall.apart(4, -1), -1);
        Hall.due("n -1", hall.apart(-1, 0), -1);
        Hall.due("n 201", hall.apart(201, 0), -1);
        Hall.due("no rooms", new KnobHall().apart(200, 1), 0);
        hall = Hall.of("room a 100 0 0;room b 100 0 1;knob 30 a;");
        Hall.due("200 hours", hall.apart(200, 0), 200);
        Hall.due("200 tenths", hall.apart(200, 1), 200);
    }

    private static void feels() {
        KnobHall hall = Hall.of(NowTest.HOUSE);
        Hall.due("a in three hours", hall.feels(0, 3), 3);
        Hall.due("not in two", hall.feels(0, 2), -2);
        Hall.due("b not in three", hall.feels(1, 3), -2);
        Hall.due("no person", hall.feels(2, 3), -1);
        Hall.due("person -1", hall.feels(-1, 3), -1);
        Hall.due("n 0", hall.feels(0, 0), -1);
        Hall.due("n 100", hall.feels(0, 100), -1);
        hall.jumper(0, true);
        Hall.due("now with a jumper", hall.feels(0, 1), 0);
        hall = Hall.of("room h 100 0 10;person a h 15 3 9;knob 30 h;");
        Hall.due("five hours and three late", hall.feels(0, 99), 8);
        hall = Hall.of("room h 100 0 1;person a h 20 1 0;knob 30 h;law turn 0;");
        Hall.due("not in 99", hall.feels(0, 99), -2);
        hall.go(2);
        Hall.due("in 99", hall.feels(0, 99), 99);
    }
}
