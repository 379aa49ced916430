/** Promises 6 to 9, 29, 32 and 44: person, room, out, law, crossest, spread, count. */
public final class NowTest {
    static final String HOUSE = "room h 180 10 20;room s 200 20 30;person a h 20 0 7;person b s 22 1 7;"
        + "sun s 10 40;out 100;out 60;knob 20 h;price 5;";
    private static final long ERROR = Long.MIN_VALUE;

    public static void main(String[] args) {
        people();
        rooms();
        weathers();
        values();
        errors();
        namesOfLaws();
        noSuchLaws();
        crossest();
        spread();
        counts();
        Hall.end();
    }

    private static void people() {
        KnobHall hall = Hall.of(HOUSE);
        int[] told = {1, 22, 1, 7, 200, 0, 0};
        for (int what = 0; what < told.length; what++) {
            Hall.due("person(1, " + what + ")", Hall.person(hall, 1, what), told[what]);
        }
        hall.go(4);
        Hall.due("a feels at once", hall.person(0, 4), 195);
        Hall.due("b feels what was an hour ago", hall.person(1, 4), 218);
        Hall.due("a is cross", hall.person(0, 5), 1);
        Hall.due("b is cross", hall.person(1, 5), 4);
        hall.jumper(1, true);
        Hall.due("b feels a jumper at once", hall.person(1, 4), 238);
        Hall.due("b has it", hall.person(1, 6), 1);
        Hall.due("no person 2", Hall.person(hall, 2, 0), -1000);
        Hall.due("no person -1", Hall.person(hall, -1, 0), -1000);
        Hall.due("no person, no what", Hall.person(hall, 2, 7), -1000);
        Hall.due("no what 7", Hall.person(hall, 0, 7), -1001);
        Hall.due("no what -1", Hall.person(hall, 1, -1), -1001);
        late();
    }

    private static void late() {
        KnobHall hall = Hall.of("room h 100 0 10;person a h 20 5 9;person b h 20 2 9;knob 30 h;");
        for (int hour = 1; hour <= 8; hour++) {
            hall.go(1);
            Hall.due("five hours late, behind " + hour, hall.person(0, 4), 100 + 10 * Math.max(0, hour - 5));
            Hall.due("two hours late, behind " + hour, hall.person(1, 4), 100 + 10 * Math.max(0, hour - 2));
        }
    }

    private static void rooms() {
        KnobHall hall = Hall.of(HOUSE + "sun s 10 9;sun h 10 3;");
        int[] told = {200, 20, 30, 0};
        for (int what = 0; what < told.length; what++) {
            Hall.due("room(1, " + what + ")", hall.room(1, what), told[what]);
        }
        hall.go(10);
        Hall.due("suns add up", hall.room(1, 3), 49);
        Hall.due("the other room's", hall.room(0, 3), 3);
        hall.go(24);
        Hall.due("again on the next day", hall.room(1, 3), 49);
        hall.go(1);
        Hall.due("not an hour later", hall.room(1, 3), 0);
        Hall.due("no room 2", hall.room(2, 0), -1);
        Hall.due("no room -1", hall.room(-1, 0), -1);
        Hall.due("no what 4", hall.room(0, 4), -1);
        Hall.due("no what -1", hall.room(0, -1), -1);
    }

    private static void weathers() {
        KnobHall hall = Hall.of("out 10;out 20;out 30;");
        int[] outs = {10, 20, 30, 10, 20, 30, 10};
        for (int hour = 0; hour < outs.length; hour++) {
            Hall.due("out(" + hour + ")", hall.out(hour), outs[hour]);
        }
        Hall.due("out(9999)", hall.out(9999), 10);
        Hall.due("out(10000)", hall.out(10000), -1);
        Hall.due("out(-1)", hall.out(-1), -1);
        Hall.due("out without", new KnobHall().out(7), 100);
        hall.go(1);
        Hall.due("hours are not from now on", hall.out(0), 10);
    }

    private static void value(String formula, long want) {
        Hall.due(formula, Hall.of("room h 180 7 20;law lose " + formula + ";").law(0, 0), want);
    }

    private static void values() {
        value("7", 7);
        value("1-2-3", -4);
        value("2+3*4", 14);
        value("(2+3)*4", 20);
        value("8/4/2", 1);
        value("7/2", 3);
        value("(0-7)/2", -3);
        value("7/(0-2)", -3);
        value("1<2", 1);
        value("2<1", 0);
        value("1<1", 0);
        value("1<=1", 1);
        value("2<=1", 0);
        value("1=1", 1);
        value("1=2", 0);
        value("1<>2", 1);
        value("1<>1", 0);
        value("1>=1", 1);
        value("1>=2", 0);
        value("2>1", 1);
        value("1>1", 0);
        value("not 0", 1);
        value("not 5", 0);
        value("not not 7", 1);
        value("not 2 < 1", 1);
        value("not 1 and 0", 0);
        value("not (1 and 0)", 1);
        value("not 0 or 1", 1);
        value("5 and 3", 1);
        value("5 and 0", 0);
        value("0 or 7", 1);
        value("0 or 0", 0);
        value("1 or 1 and 0", 1);
        value("(1 or 1) and 0", 0);
        value("1 + 1 < 1 * 3", 1);
        value("3 - 1 = 2 and 1", 1);
        value("(1<2) + (2<3)", 2);
        value("(1<2) < (3<2)", 0);
        value("1 < 2 and 2 < 1 or 1 = 1", 1);
        value("2*3+4*5-6/2", 23);
        value("1+(not 0)", 2);
        value("1 < (not 0 < 1)", 0);
        value("not ".repeat(63) + "1", 0);
        value("not ".repeat(62) + "5", 1);
        value("1+(".repeat(8) + "1" + ")".repeat(8), 9);
        value("not (0 or ".repeat(8) + "1" + ")".repeat(8), 1);
        value("1+(".repeat(7) + "not ".repeat(40) + "(3)" + ")".repeat(7), 8);
    }

    private static void errors() {
        value("1/0", ERROR);
        value("0 and 1/0", ERROR);
        value("1 or 1/0", ERROR);
        value("1/0 or 1", ERROR);
        value("0*(1/0)", ERROR);
        value("1000*1000*1000*1000", 1000000000000L);
        value("1000*1000*1000*1000+1", ERROR);
        value("1000*1000*1000*999+1000*1000*1000", 1000000000000L);
        value("0-1000*1000*1000*999-1000*1000*1000", -1000000000000L);
        value("1000*1000*1000*1000+1-1", ERROR);
        value("0-1000*1000*1000*1000", -1000000000000L);
        value("0-1000*1000*1000*1000-1", ERROR);
        value("1000*1000*1000*1001", ERROR);
        value("(0-1000)*1000*1000*1001", ERROR);
        value("1000*1000*1000*1000*(1000*1000*1000*1000)", ERROR);
        value("4096*4096*4096*4*(4096*4096*4096*4)", ERROR);
        value("0*(1000*1000*1000*1000)", 0);
        value("1000*1000*1000*1000/(0-1)", -1000000000000L);
        value("9999*9999*9999", 999700029999L);
        value("9999*9999*9999*(0-1)", -999700029999L);
    }

    private static void namesOfLaws() {
        String all = "warm*1000*1000 + outer*1000 + hour";
        String rest = "felt*1000*1000 + wish*1000 + leak";
        String house = "room s 9 9 9;room h 180 7 20;out 90;out 60;out 80;person b s 1 0 0;person a h 21 1 5;knob 19 h;";
        KnobHall hall = Hall.of(house + "law lose " + all + ";law turn " + all + ";law cross " + all + ";");
        Hall.due("lose of h", hall.law(0, 1), 180090000);
        Hall.due("lose of s", hall.law(0, 0), 9090000);
        Hall.due("turn of a", hall.law(1, 1), 180090000);
        Hall.due("cross of b", hall.law(2, 0), 9090000);
        hall = Hall.of(house + "law lose " + rest + ";law turn " + rest + ";law cross set;");
        Hall.due("felt, wish, leak of lose", hall.law(0, 1), 7);
        Hall.due("felt, wish, leak of turn", hall.law(1, 1), 180210007);
        Hall.due("set", hall.law(2, 1), 190);
        hall.set(25);
        Hall.due("set, turned", hall.law(2, 1), 250);
        hall.jumper(1, true);
        Hall.due("felt with a jumper", hall.law(1, 1), 200210007);
        hall.set(5);
        hall.go(2);
        Hall.due("by what a feels, an hour late", hall.law(1, 1), hall.person(1, 4) * 1000000L + 210007);
        hall = Hall.of(house + "law lose outer*100 + hour;");
        hall.go(26);
        Hall.due("outer, hour of the day", hall.law(0, 0), 8002);
    }

    private static void noSuchLaws() {
        KnobHall hall = Hall.of("room h 180 7 20;person a h 20 0 0;law lose 1;law turn 2;law cross 3;");
        Hall.due("lose", hall.law(0, 0), 1);
        Hall.due("turn", hall.law(1, 0), 2);
        Hall.due("cross", hall.law(2, 0), 3);
        Hall.due("no room", hall.law(0, 1), ERROR);
        Hall.due("room -1", hall.law(0, -1), ERROR);
        Hall.due("no person", hall.law(1, 1), ERROR);
        Hall.due("person -1", hall.law(2, -1), ERROR);
        Hall.due("law 3", hall.law(3, 0), ERROR);
        Hall.due("law -1", hall.law(-1, 0), ERROR);
        hall = Hall.of("room h 180 7 20;person a h 20 0 0;law turn 2;");
        Hall.due("lose isn't told", hall.law(0, 0), ERROR);
        Hall.due("cross isn't told", hall.law(2, 0), ERROR);
        Hall.due("turn is", hall.law(1, 0), 2);
    }

    private static void crossest() {
        KnobHall hall = Hall.of(HOUSE);
        Hall.due("alike", hall.crossest(), 0);
        hall.go(1);
        Hall.due("b", hall.crossest(), 1);
        Hall.due("nobody", new KnobHall().crossest(), -1);
        hall = Hall.of("room h 200 0 0;person a h 20 0 0;person b h 18 0 0;person c h 22 0 0;");
        hall.go(1);
        Hall.due("the first of several", hall.crossest(), 1);
    }

    private static void spread() {
        KnobHall hall = Hall.of("room a 150 0 0;room b 90 0 0;room c 310 0 0;");
        Hall.due("spread()", hall.spread(), 220);
        Hall.due("one room", Hall.of("room a 150 0 0;").spread(), 0);
        Hall.due("no room", new KnobHall().spread(), 0);
        hall = Hall.of(HOUSE);
        hall.go(4);
        Hall.due("behind four hours", hall.spread(), 8);
    }

    private static void counts() {
        KnobHall hall = Hall.of(HOUSE + "law cross wish - felt;");
        hall.go(8);
        hall.hang(1);
        hall.candle(true);
        hall.wear(1, 20, true);
        hall.wear(2, 20, true);
        hall.known(1);
        int[] counts = {2, 2, 3, 8, 22, 1, 1, 1, 25, 5, 2, 0, 2, 1, 2};
        for (int what = 0; what < counts.length; what++) {
            if (what != 11) {
                Hall.due("count(" + what + ")", hall.count(what), counts[what]);
            }
        }
        Hall.due("all are cross", hall.count(11), hall.person(0, 5) + hall.person(1, 5));
        Hall.due("count(15)", hall.count(15), -1);
        Hall.due("count(-1)", hall.count(-1), -1);
        hall.known(-1);
        Hall.due("known by all", hall.count(13), 2);
        hall.hang(0);
        Hall.due("189 and 50 for a candle", hall.count(7), 0);
        hall.candle(false);
        Hall.due("189 below 220", hall.count(7), 1);
        hall = Hall.of("room h 200 0 0;");
        Hall.due("200 isn't below 200", hall.count(7), 0);
        hall.set(21);
        Hall.due("it is below 210", hall.count(7), 1);
    }
}
