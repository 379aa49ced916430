/** Promises 35 to 38: wear, strike, known, lately. */
public final class WearTest {
    /** It gets 10 tenths warmer by each of the first hours, and a turns it on each hour's pass. */
    private static final String HOUSE = "room h 100 0 10;person a h 15 2 7;person b h 15 0 23;knob 30 h;";

    public static void main(String[] args) {
        numbers();
        twentyFour();
        knownByHowMany();
        strikes();
        lately();
        fromTheText();
        imagesDoNotKeepIt();
        Hall.end();
    }

    private static void numbers() {
        KnobHall hall = Hall.of(HOUSE);
        Hall.due("hours 0", hall.wear(0, 20, true), -1);
        Hall.due("hours 61", hall.wear(61, 20, true), -1);
        Hall.due("SET 4", hall.wear(1, 4, true), -1);
        Hall.due("SET 31", hall.wear(1, 31, true), -1);
        Hall.due("none yet", hall.strike(0), -1);
        Hall.due("the first", hall.wear(1, 5, true), 0);
        Hall.due("the second", hall.wear(60, 30, false), 1);
        Hall.due("strike(2)", hall.strike(2), -1);
        Hall.due("strike(-1)", hall.strike(-1), -1);
        Hall.due("a strike", hall.strike(1), 2);
        Hall.due("a strike of it", hall.strike(2), 3);
        Hall.due("the same once more", hall.strike(1), 4);
        Hall.due("count(12)", hall.count(12), 5);
    }

    private static void twentyFour() {
        KnobHall hall = Hall.of(HOUSE);
        for (int i = 0; i < 24; i++) {
            Hall.due("number " + i, i % 2 == 0 ? hall.wear(1, 20, true) : hall.strike(i - 1), i);
        }
        Hall.due("no 25th", hall.wear(1, 20, true), -1);
        Hall.due("no 25th strike", hall.strike(0), -1);
        Hall.due("count(12)", hall.count(12), 24);
        Hall.due("known(24)", hall.known(24), true);
        Hall.due("known(25)", hall.known(25), false);
    }

    private static void knownByHowMany() {
        KnobHall hall = Hall.of(HOUSE);
        Hall.due("known(1) of none", hall.known(1), false);
        Hall.due("known(0) of none", hall.known(0), true);
        hall.wear(1, 5, false);
        Hall.due("by none", hall.lately(0), 63);
        Hall.due("count(13)", hall.count(13), 0);
        Hall.due("known(-1)", hall.known(-1), true);
        Hall.due("known(-2)", hall.known(-2), false);
        Hall.due("by all", hall.lately(0), 0);
        Hall.due("count(13) of all", hall.count(13), 1);
        hall.strike(0);
        Hall.due("also those to come", hall.lately(0), 63);
        Hall.due("count(13) of two", hall.count(13), 2);
        Hall.due("known(1)", hall.known(1), true);
        Hall.due("without the strike", hall.lately(0), 0);
        Hall.due("known(2)", hall.known(2), true);
        hall.strike(1);
        Hall.due("not by the third", hall.lately(0), 63);
        Hall.due("count(13) stays", hall.count(13), 2);
        hall.known(3);
        Hall.due("the strike is struck", hall.lately(0), 0);
    }

    private static void strikes() {
        KnobHall hall = Hall.of(HOUSE);
        hall.wear(1, 5, false);
        hall.strike(0);
        hall.strike(1);
        hall.strike(2);
        Hall.due("struck, unstruck, struck", hall.lately(0), 63);
        hall.strike(1);
        Hall.due("once more unstruck", hall.lately(0), 0);
        hall.strike(0);
        Hall.due("by another", hall.lately(0), 63);
    }

    private static void lately() {
        // In hour 7 it is 180 behind (2), and 160 two hours ago: a wants 150.
        KnobHall hall = Hall.of(HOUSE);
        Hall.due("nothing known", hall.lately(0), 63);
        // By 0 .. 2 hours late it feels 180, 170, 160 and turns it down; by 3 150: not; by 4, 5 140, 130: up, but 30 is the end.
        hall.wear(8, 30, true);
        Hall.due("it was not turned down", hall.lately(0), 8 + 16 + 32);
        Hall.due("b doesn't pass by then, a told as 2", hall.lately(1), 0);
        hall.known(0);
        hall.wear(8, 30, false);
        hall.known(-1);
        Hall.due("both can't be", hall.lately(0), 0);
        hall.strike(0);
        Hall.due("it was", hall.lately(0), 1 + 2 + 4);
        hall.wear(7, 30, true);
        Hall.due("but not an hour ahead", hall.lately(0), 7);
        hall.wear(60, 27, true);
        Hall.due("a twice, b twice by then", hall.lately(0), 0);
        Hall.due("no person", hall.lately(2), -1);
        Hall.due("person -1", hall.lately(-1), -1);
    }

    private static void fromTheText() {
        KnobHall hall = Hall.of(HOUSE);
        hall.wear(8, 30, true);
        hall.set(20);
        hall.candle(true);
        hall.jumper(0, true);
        hall.go(30);
        hall.set(9);
        Hall.due("calls and hours don't matter", hall.lately(0), 56);
        Hall.due("nor what is told of its lateness", hall.person(0, 2), 2);
        Hall.due("all as it was", hall.count(4) * 100 + hall.count(3), 930);
    }

    private static void imagesDoNotKeepIt() {
        KnobHall hall = Hall.of(HOUSE);
        hall.keep();
        hall.wear(8, 30, true);
        hall.back();
        Hall.due("it is still there", hall.count(12), 1);
        Hall.due("and known", hall.lately(0), 56);
        Hall.tell(hall, HOUSE);
        Hall.due("no more by a new text", hall.count(12), 0);
        hall.wear(8, 5, false);
        Hall.due("all known by a new text", hall.lately(0), 0);
    }
}
