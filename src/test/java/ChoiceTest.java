/** Promises 18 to 22, 24, 28 and 31: best, cheap, hears, onAgain, night, degree, givesIn, strip. */
public final class ChoiceTest {
    public static void main(String[] args) {
        best();
        cheap();
        hears();
        onAgain();
        night();
        degree();
        givesIn();
        strip();
        Hall.end();
    }

    private static void best() {
        KnobHall hall = Hall.of(NowTest.HOUSE);
        Hall.due("best(1, 0)", hall.best(1, 0), 19);
        Hall.due("best(1, 1)", hall.best(1, 1), 2);
        Hall.due("best(0, 0)", hall.best(0, 0), -1);
        Hall.due("best(100, 0)", hall.best(100, 0), -1);
        Hall.due("what 2", hall.best(1, 2), -1);
        Hall.due("what -1", hall.best(1, -1), -1);
        Hall.due("best(99, 0) is one", hall.best(99, 0) >= 5 && hall.best(99, 0) <= 30, true);
        hall.go(2);
        Hall.due("CROSS more, not so far", hall.best(1, 1) < hall.count(11), true);
        hall = Hall.of("room h 100 0 0;person a h 20 0 0;law turn 9;law cross set - 250;knob 30 h;");
        Hall.due("nobody turning, the first", hall.best(2, 0), 5);
        Hall.due("by it", hall.best(2, 1), 0);
        hall = Hall.of("room h 100 0 0;person a h 20 0 0;law turn 9;law cross (set - 250)*(set - 250);");
        Hall.due("25 for good", hall.best(2, 0), 25);
        Hall.due("SET stays", hall.count(4), 20);
        hall = Hall.of("room h 100 0 0;person a h 20 0 0;law cross 300 - set;");
        Hall.due("30 is one, too", hall.best(2, 0), 30);
        Hall.due("an hour", hall.best(1, 1), 0);
    }

    private static void cheap() {
        KnobHall hall = Hall.of(NowTest.HOUSE);
        Hall.due("cheap(1, 2)", hall.cheap(1, 2), 19);
        Hall.due("cheap(1, 3)", hall.cheap(1, 3), 19);
        Hall.due("cheap(1, 4)", hall.cheap(1, 4), 5);
        Hall.due("cheap(1, 1)", hall.cheap(1, 1), -2);
        Hall.due("cheap(0, 4)", hall.cheap(0, 4), -1);
        Hall.due("cheap(100, 4)", hall.cheap(100, 4), -1);
        Hall.due("bound -1", hall.cheap(1, -1), -1);
        Hall.due("bound 100000", hall.cheap(1, 100000), -1);
        Hall.due("bound 99999", hall.cheap(99, 99999), 5);
        hall = Hall.of("room h 100 0 10;person a h 20 0 0;law turn 9;knob 30 h;law cross 100 - felt/10*5;");
        Hall.due("an hour of fire for 45, two for 90", hall.cheap(3, 50 + 45 + 45), 11);
        Hall.due("all three hours", hall.cheap(3, 45 + 40 + 35), 13);
        Hall.due("no SET", hall.cheap(3, 45 + 40 + 34), -2);
        hall = Hall.of("room h 100 0 0;law lose 0 - (set - 100);");
        Hall.due("below 10 it cools and burns, 10 burns nothing", hall.cheap(9, 0), 10);
        hall = Hall.of("room h 100 0 0;person a h 20 0 0;law lose 0 - (set >= 290)*400;law cross set < 200;");
        Hall.due("20 to 28 burn on, 29 an hour: the least, the first", hall.cheap(9, 0), 29);
        hall = Hall.of("room h 100 0 0;person a h 20 0 0;law cross set < 300;");
        Hall.due("30 alone", hall.cheap(9, 0), 30);
        hall = Hall.of("room h 100 0 0;person a h 20 0 0;law lose 0 - (set - 100)/5;law cross set < 200;");
        Hall.due("by 20 five hours, by 25 five, by 30 five: 20", hall.cheap(9, 0), 20);
    }

    private static void hears() {
        KnobHall hall = Hall.of(NowTest.HOUSE);
        Hall.due("hears(1)", hall.hears(1), 0);
        Hall.due("hears(0)", hall.hears(0), -1);
        Hall.due("hears(100)", hall.hears(100), -1);
        Hall.due("no rooms", new KnobHall().hears(1), -1);
        hall = Hall.of("room hot 300 0 0;room cold 100 0 50;person a cold 30 0 0;knob 20 hot;law turn 9;");
        Hall.due("where it is cold", hall.hears(2), 1);
        Hall.due("it stays where it hangs", hall.count(5), 0);
        hall = Hall.of("room a 160 0 50;room b 140 0 50;person p b 15 0 9;");
        Hall.due("both alike: the first", hall.hears(1), 0);
        hall.candle(true);
        Hall.due("a candle under it: only b is cold", hall.hears(1), 0);
        hall = Hall.of("room a 160 0 50;room b 140 0 50;person p b 19 0 9;");
        hall.candle(true);
        Hall.due("b with a candle", hall.hears(1), 1);
    }

    private static void onAgain() {
        KnobHall hall = Hall.of(NowTest.HOUSE);
        Hall.due("two hours of fire", hall.onAgain(0, 190, 2), 0);
        Hall.due("one is enough", hall.onAgain(0, 181, 2), 1);
        Hall.due("none is", hall.onAgain(0, 161, 2), 2);
        Hall.due("a bit more", hall.onAgain(0, 162, 2), 1);
        Hall.due("never", hall.onAgain(0, 200, 2), -2);
        Hall.due("now", hall.onAgain(0, 180, 0), 0);
        Hall.due("not now", hall.onAgain(0, 181, 0), -2);
        Hall.due("no room", hall.onAgain(2, 180, 2), -1);
        Hall.due("room -1", hall.onAgain(-1, 180, 2), -1);
        Hall.due("tenths -1", hall.onAgain(0, -1, 2), -1);
        Hall.due("tenths 601", hall.onAgain(0, 601, 2), -1);
        Hall.due("n -1", hall.onAgain(0, 180, -1), -1);
        Hall.due("n 100", hall.onAgain(0, 180, 100), -1);
        hall = Hall.of("room h 100 0 1;person a h 0 0 0;law turn 0-9;");
        Hall.due("50 of 99 hours", hall.onAgain(0, 150, 99), 49);
        hall = Hall.of("room h 40 0 5;out 40;");
        Hall.due("by 5 it is on, too, till 50", hall.onAgain(0, 50, 9), 9);
        Hall.due("then by 30", hall.onAgain(0, 60, 9), 7);
    }

    private static void night() {
        KnobHall hall = Hall.of("room h 150 0 0;person a h 20 0 1;law turn 0-9;out 150;price 7;knob 25 h;");
        Hall.due("eight hours", hall.night(1), -56);
        Hall.due("a week", hall.night(7), -392);
        Hall.due("night(0)", hall.night(0), Integer.MIN_VALUE);
        Hall.due("night(8)", hall.night(8), Integer.MIN_VALUE);
        hall.go(6);
        Hall.due("from 6 on", hall.night(1), -56);
        Hall.due("a new object", new KnobHall().night(7), 0);
        hall = Hall.of("room h 150 0 10;price 1;knob 20 h;law lose (hour = 21) * 50 + (hour = 5) * 100;");
        Hall.due("of what is lost by night most is made good by day", hall.night(1), 15 - 17);
        hall = Hall.of("room h 100 0 0;price 1;knob 20 h;law lose 0 - 150 * (set = 200) * (hour = 5 or hour = 22);");
        Hall.due("it costs more", hall.night(1), 24 - 8 - 6);
    }

    private static void degree() {
        KnobHall hall = Hall.of("room h 195 0 1;price 5;person a h 0 0 0;law turn 0-9;");
        Hall.due("five hours alike", hall.degree(5), 0);
        Hall.due("then one more", hall.degree(6), 5);
        Hall.due("ten more", hall.degree(99), 50);
        Hall.due("degree(0)", hall.degree(0), -1);
        Hall.due("degree(100)", hall.degree(100), -1);
        hall.set(30);
        Hall.due("at 30", hall.degree(99), 0);
        hall.set(29);
        Hall.due("at 29", hall.degree(99), 5 * (99 - 95));
        hall = Hall.of("room h 100 0 0;law lose 0 - 300*(set > 200);");
        Hall.due("less is paid by more", hall.degree(9), 0);
        Hall.due("SET stays", hall.count(4), 20);
    }

    private static void givesIn() {
        KnobHall hall = Hall.of("room h 150 0 0;person a h 20 0 1;person b h 10 2 1;out 150;");
        Hall.due("both alike", hall.givesIn(0, 1), 0);
        Hall.due("the lesser number", hall.givesIn(1, 0), 0);
        Hall.due("alike", hall.givesIn(1, 1), -1);
        Hall.due("no first", hall.givesIn(2, 1), -1);
        Hall.due("no second", hall.givesIn(0, 2), -1);
        Hall.due("first -1", hall.givesIn(-1, 1), -1);
        Hall.due("second -1", hall.givesIn(0, -1), -1);
        hall = Hall.of("room h 100 0 10;room c 200 0 0;person a h 20 0 1;person b c 18 0 1;law turn 9;");
        Hall.due("b sits elsewhere", hall.givesIn(0, 1), 1);
        Hall.due("told the other way", hall.givesIn(1, 0), 1);
        hall = Hall.of("room h 0 0 0;person a h 0 0 1;person b h 40 0 1;law cross wish*9/400 + set - 50 - 250*(set=300);");
        Hall.due("SET is 5 .. 30", hall.givesIn(0, 1), 0);
        // The one who loses nothing by just that SET gives in: 5 for WANTS 0 .. 5, 30 for WANTS 30 .. 40.
        int[] wants = {0, 4, 5, 6, 29, 30, 31, 40};
        for (int other : wants) {
            int set = Math.max(5, Math.min(30, other));
            for (int guess = Math.max(0, set - 2); guess <= set + 2; guess++) {
                hall = Hall.of("room h 100 0 0;person a h " + other + " 0 1;person b h 20 0 1;law cross (wish <> 200) + 2*(wish = 200)*(set <> "
                    + 10 * guess + ");");
                Hall.due("by WANTS " + other + " SET is " + guess, hall.givesIn(0, 1), guess == set ? 1 : 0);
            }
        }
    }

    private static void strip() {
        KnobHall hall = Hall.of(NowTest.HOUSE);
        Hall.due("an hour of fire", hall.strip(0, 4), 5);
        Hall.due("the other room isn't heard", hall.strip(1, 4), 0);
        Hall.due("no room", hall.strip(2, 4), -1);
        Hall.due("room -1", hall.strip(-1, 4), -1);
        Hall.due("n 0", hall.strip(0, 0), -1);
        Hall.due("n 100", hall.strip(0, 100), -1);
        Hall.due("LEAK stays", hall.room(0, 1), 10);
        hall = Hall.of("room h 190 3 10;price 1;law lose leak * 10 - 10;");
        Hall.due("half of 3 is 1, and leak is that", hall.strip(0, 9), 9 - 1);
        hall = Hall.of("room h 199 3 0;price 1;law lose leak - 3;");
        Hall.due("0 at least", hall.strip(0, 9), 8);
        hall = Hall.of("room h 199 3 0;price 1;law lose 1 - leak;");
        Hall.due("what would be more is 0", hall.strip(0, 9), 0);
    }
}
