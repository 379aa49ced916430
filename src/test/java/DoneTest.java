/** Promises 10 to 14 and 41 to 43: set, hang, candle, jumper, go, undo, keep, back. */
public final class DoneTest {
    public static void main(String[] args) {
        setting();
        hanging();
        candles();
        jumpers();
        going();
        losing();
        turning();
        byNumbers();
        crossness();
        farAway();
        beyondTheLastHour();
        undoing();
        undoingTwenty();
        images();
        Hall.end();
    }

    private static void setting() {
        KnobHall hall = Hall.of(NowTest.HOUSE);
        Hall.due("set(20)", hall.set(20), false);
        Hall.due("set(4)", hall.set(4), false);
        Hall.due("set(31)", hall.set(31), false);
        Hall.due("set(-5)", hall.set(-5), false);
        Hall.due("SET stays", hall.count(4), 20);
        Hall.due("set(5)", hall.set(5), true);
        Hall.due("SET", hall.count(4), 5);
        Hall.due("set(30)", hall.set(30), true);
        Hall.due("SET is", hall.count(4), 30);
        Hall.due("set(30) again", hall.set(30), false);
        Hall.due("no turns by call", hall.count(10), 0);
    }

    private static void hanging() {
        KnobHall hall = Hall.of(NowTest.HOUSE);
        Hall.due("hang(0)", hall.hang(0), false);
        Hall.due("hang(2)", hall.hang(2), false);
        Hall.due("hang(-1)", hall.hang(-1), false);
        Hall.due("hang(1)", hall.hang(1), true);
        Hall.due("it hears", hall.count(5), 1);
        Hall.due("the stove, 200 is not below 200", hall.count(7), 0);
        Hall.due("hang(1) again", hall.hang(1), false);
        hall.go(1);
        Hall.due("h cools", hall.room(0, 0), 172);
        Hall.due("without rooms", new KnobHall().hang(0), false);
    }

    private static void candles() {
        KnobHall hall = Hall.of("room h 149 0 7;knob 20 h;");
        Hall.due("none is", hall.candle(false), false);
        Hall.due("candle(true)", hall.candle(true), true);
        Hall.due("again", hall.candle(true), false);
        hall.go(1);
        Hall.due("199 is below 200", hall.room(0, 0), 156);
        hall.go(1);
        Hall.due("206 isn't", hall.room(0, 0), 156);
        Hall.due("candle(false)", hall.candle(false), true);
        hall.go(1);
        Hall.due("156 is", hall.room(0, 0), 163);
    }

    private static void jumpers() {
        KnobHall hall = Hall.of("room h 180 0 0;person a h 20 0 0;person b h 20 0 5;");
        Hall.due("no person", hall.jumper(2, true), false);
        Hall.due("person -1", hall.jumper(-1, true), false);
        Hall.due("none has", hall.jumper(0, false), false);
        Hall.due("jumper", hall.jumper(0, true), true);
        Hall.due("again", hall.jumper(0, true), false);
        hall.go(1);
        Hall.due("a is warm and turns nothing", hall.count(10), 0);
        Hall.due("a isn't cross", hall.person(0, 5), 0);
        Hall.due("b is", hall.person(1, 5), 2);
        Hall.due("off", hall.jumper(0, false), true);
        hall.go(24);
        Hall.due("then a turns", hall.turnsOf(0, 0), 1);
    }

    private static void going() {
        KnobHall hall = Hall.of(NowTest.HOUSE);
        Hall.due("go(0)", hall.go(0), 0);
        Hall.due("go(-1)", hall.go(-1), -1);
        Hall.due("go(100)", hall.go(100), -1);
        int[][] rooms = {{192, 210}, {199, 210}, {210, 218}, {195, 187}, {206, 200}, {192, 172}, {203, 188}, {189, 163}};
        for (int hour = 0; hour < rooms.length; hour++) {
            Hall.due("go(1)", hall.go(1), hour + 1);
            Hall.due("h behind " + hour, hall.room(0, 0), rooms[hour][0]);
            Hall.due("s behind " + hour, hall.room(1, 0), rooms[hour][1]);
        }
        Hall.due("SET", hall.count(4), 22);
        Hall.due("PAID", hall.count(8), 25);
        Hall.due("fire", hall.count(9), 5);
        Hall.due("TURNS", hall.count(10), 2);
        Hall.due("CROSS", hall.count(11), 18);
        Hall.due("go(99)", hall.go(99), 107);
        hall = Hall.of("room h 100 0 0;sun h 2 33;price 0;");
        hall.go(3);
        Hall.due("sun", hall.room(0, 0), 133);
        Hall.due("nothing to pay", hall.count(8), 0);
        Hall.due("three hours of fire", hall.count(9), 3);
        hall = Hall.of("room h 100 0 0;");
        hall.go(3);
        Hall.due("three an hour without a price", hall.count(8), 9);
    }

    /** WARM behind an hour. */
    private static void warm(String text, int want) {
        KnobHall hall = Hall.of(text);
        hall.go(1);
        Hall.due(text, hall.room(0, 0), want);
    }

    private static void losing() {
        warm("room h 201 50 9;out 100;", 151);
        warm("room h 51 50 0;out 100;", 75);
        warm("room h 50 50 9;out 100;", 84);
        warm("room h 400 99 9;out 0;", 4);
        warm("room h 300 0 0;law lose 9999;", 0);
        warm("room h 400 0 0;law lose 399;", 1);
        warm("room h 400 0 0;sun h 0 99;law lose 9999;", 99);
        warm("room h 400 99 0;sun h 0 99;sun h 0 99;out 0;", 202);
        warm("room h 400 0 0;law lose 400;", 0);
        warm("room h 150 0 0;law lose 0-399;", 549);
        warm("room h 150 0 0;law lose 0-9999;", 550);
        warm("room h 400 0 0;law lose 0-9999;", 600);
        warm("room h 300 10 9;out 100;law lose 1/0;", 280);
        warm("room h 300 10 9;out 100;law lose 0;", 300);
        warm("room h 300 10 9;out 100;law lose warm/outer + leak;", 287);
        KnobHall hall = Hall.of("room a 100 10 0;room b 200 20 0;out 0;law lose warm*leak/100;");
        hall.go(1);
        Hall.due("each room by its own", hall.room(0, 0) * 1000 + hall.room(1, 0), 90160);
    }

    private static void turns(String text, int want) {
        KnobHall hall = Hall.of(text);
        hall.go(1);
        Hall.due(text, hall.count(4), want);
        Hall.due("TURNS of " + text, hall.count(10), want == 20 ? 0 : 1);
    }

    private static void turning() {
        turns("room h 195 0 0;person a h 20 0 0;", 20);
        turns("room h 194 0 0;person a h 20 0 0;", 21);
        turns("room h 205 0 0;person a h 20 0 0;", 20);
        turns("room h 206 0 0;person a h 20 0 0;", 19);
        turns("room h 194 0 0;person a h 20 0 1;", 20);
        turns("room h 100 0 0;person a h 20 0 0;law turn 99;", 29);
        turns("room h 100 0 0;person a h 20 0 0;law turn 0-99;", 11);
        turns("room h 100 0 0;person a h 20 0 0;law turn 0;", 20);
        turns("room h 100 0 0;person a h 20 0 0;law turn 1/0;", 21);
        turns("room h 100 0 99;person a h 20 0 0;law turn warm = 199 and felt = 199;", 21);
        turns("room h 100 0 99;person a h 20 1 0;law turn warm = 199 and felt = 100;", 21);
        KnobHall hall = Hall.of("room h 0 0 0;person a h 20 0 0;knob 28 h;law turn 9;");
        hall.go(1);
        Hall.due("30 at most", hall.count(4), 30);
        hall.go(24);
        Hall.due("no turn at 30", hall.count(10), 1);
        hall = Hall.of("room h 0 0 0;person a h 20 0 0;knob 7 h;law turn 0-9;");
        hall.go(1);
        Hall.due("5 at least", hall.count(4), 5);
    }

    private static void byNumbers() {
        KnobHall hall = Hall.of("room h 100 0 0;person a h 20 0 3;person b h 20 0 3;law turn set / 100;");
        hall.go(4);
        Hall.due("b turns by what a left", hall.count(4), 24);
        hall = Hall.of("room h 100 0 0;person a h 20 0 3;person b h 20 0 3;law turn set/10 - 19;law cross set;");
        hall.go(4);
        Hall.due("1, then 2", hall.count(4), 23);
        Hall.due("all are cross by SET as turned", hall.person(0, 5), 200 * 3 + 230);
    }

    private static void crossness() {
        String house = "room h 100 0 0;person a h 20 0 9;law cross ";
        String[] formulas = {"1000;", "999;", "0-1;", "7;", "1/0;", "wish - felt;"};
        int[] due = {999, 999, 0, 7, 10, 100};
        for (int i = 0; i < due.length; i++) {
            KnobHall hall = Hall.of(house + formulas[i]);
            hall.go(2);
            Hall.due("law cross " + formulas[i], hall.count(11), 2 * due[i]);
        }
        KnobHall hall = Hall.of("room h 219 0 0;person a h 20 0 9;person b h 24 0 9;");
        hall.go(1);
        Hall.due("19 tenths by 10, cut", hall.person(0, 5), 1);
        Hall.due("21 below", hall.person(1, 5), 2);
    }

    private static void farAway() {
        KnobHall hall = Hall.of("room h 100 1 1;");
        for (int i = 0; i < 100; i++) {
            hall.go(99);
        }
        Hall.due("9900 isn't behind 9900", hall.count(3), 9900);
        Hall.due("go(100) there", hall.go(100), -1);
        Hall.due("go(1) there", hall.go(1), -1);
        Hall.due("go(99) there", hall.go(99), -1);
        Hall.due("none does", hall.count(3), 9900);
        Hall.due("go(0) there", hall.go(0), 9900);
        Hall.due("ahead goes on", hall.ahead(200, 3, 0), 0);
    }

    private static void beyondTheLastHour() {
        KnobHall hall = Hall.of("room h 100 1 1;");
        hall.go(16);
        for (int i = 0; i < 214; i++) {
            hall.go(46);
        }
        hall.set(25);
        int warm = hall.room(0, 0);
        Hall.due("it would be 9906", hall.go(46), -1);
        Hall.due("it would be 9901", hall.go(41), -1);
        Hall.due("it stays 9860", hall.count(3), 9860);
        Hall.due("as warm", hall.room(0, 0), warm);
        Hall.due("no hour went by", hall.count(14), 1);
        Hall.due("up to the last one", hall.go(40), 9900);
        Hall.due("hours went by", hall.count(14), 0);
    }

    private static void undoing() {
        KnobHall hall = Hall.of(NowTest.HOUSE);
        Hall.due("nothing", hall.undo(), -1);
        hall.set(25);
        hall.hang(1);
        hall.candle(true);
        hall.jumper(1, true);
        hall.jumper(1, false);
        hall.set(25);
        hall.set(40);
        Hall.due("count(14)", hall.count(14), 5);
        Hall.due("undo the jumper off", hall.undo(), 4);
        Hall.due("it is on", hall.person(1, 6), 1);
        Hall.due("undo the jumper on", hall.undo(), 3);
        Hall.due("it is off", hall.person(1, 6), 0);
        Hall.due("undo the candle", hall.undo(), 2);
        Hall.due("no candle", hall.count(6), 0);
        Hall.due("still hung elsewhere", hall.count(5), 1);
        Hall.due("undo the hanging", hall.undo(), 1);
        Hall.due("it hears h", hall.count(5), 0);
        Hall.due("undo the turn", hall.undo(), 0);
        Hall.due("SET", hall.count(4), 20);
        Hall.due("no more", hall.undo(), -1);
        hall.set(25);
        hall.go(0);
        Hall.due("no hour went by", hall.count(14), 1);
        hall.go(200);
        Hall.due("nor by a wrong number", hall.count(14), 1);
        hall.go(1);
        Hall.due("one did", hall.count(14), 0);
        Hall.due("undo()", hall.undo(), -1);
        Hall.due("SET stays", hall.count(4), 25);
    }

    private static void undoingTwenty() {
        KnobHall hall = Hall.of(NowTest.HOUSE);
        for (int i = 0; i < 25; i++) {
            hall.set(5 + i);
        }
        Hall.due("twenty at most", hall.count(14), 20);
        for (int i = 19; i >= 0; i--) {
            Hall.due("undo()", hall.undo(), i);
            Hall.due("SET", hall.count(4), 9 + i);
        }
        Hall.due("no more", hall.undo(), -1);
        Hall.due("SET as by the fifth", hall.count(4), 9);
        hall = Hall.of(NowTest.HOUSE);
        hall.hang(1);
        hall.jumper(0, true);
        hall.jumper(1, true);
        hall.candle(true);
        for (int i = 0; i < 18; i++) {
            hall.set(5 + i);
        }
        for (int i = 0; i < 18; i++) {
            hall.undo();
        }
        Hall.due("the jumper of 1 and the candle are left", hall.count(14), 2);
        Hall.due("undo()", hall.undo(), 1);
        Hall.due("no candle", hall.count(6), 0);
        Hall.due("undo() the last", hall.undo(), 0);
        Hall.due("the jumper of 1 is gone, not that of 0", hall.person(0, 6) * 10 + hall.person(1, 6), 10);
        Hall.due("nor is it hung back", hall.count(5), 1);
        Hall.due("nothing more", hall.undo(), -1);
    }

    private static void images() {
        KnobHall hall = Hall.of(NowTest.HOUSE);
        Hall.due("none", hall.back(), -1);
        hall.go(8);
        hall.jumper(0, true);
        hall.candle(true);
        hall.hang(1);
        hall.set(10);
        Hall.due("keep()", hall.keep(), 8);
        Hall.due("can be undone", hall.count(14), 4);
        hall.undo();
        hall.jumper(0, false);
        hall.candle(false);
        hall.hang(0);
        hall.wear(3, 10, true);
        hall.go(50);
        Hall.due("back()", hall.back(), 8);
        int[] counts = {2, 2, 0, 8, 10, 1, 1, 0, 25, 5, 2, 18, 1, 1, 0};
        for (int what = 0; what < counts.length; what++) {
            Hall.due("count(" + what + ") as in the image", hall.count(what), counts[what]);
        }
        Hall.due("nothing to undo", hall.undo(), -1);
        Hall.due("learn(7)", hall.learn(7), 21);
        Hall.due("turnsOf", hall.turnsOf(0, 0) * 10 + hall.turnsOf(1, 0), 11);
        Hall.due("the jumper", hall.person(0, 6), 1);
        Hall.due("what b feels", hall.person(1, 4), 188);
        Hall.due("h", hall.room(0, 0), 189);
        hall.go(5);
        Hall.due("back() again", hall.back(), 8);
        hall.go(1);
        Hall.due("in place of the one ahead", hall.keep(), 9);
        hall.go(1);
        Hall.due("back to that", hall.back(), 9);
        Hall.due("of a new object", new KnobHall().keep(), 0);
    }
}
