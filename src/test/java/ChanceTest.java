/** Promises 39 and 40: chance, tried. */
public final class ChanceTest {
    public static void main(String[] args) {
        wrongChances();
        everyChance();
        limits();
        tried();
        wrongTries();
        Hall.end();
    }

    private static void wrongChances() {
        KnobHall hall = Hall.of("room h 150 0 0;");
        Hall.due("seed -1", hall.chance(-1, 1, 0, 150), -1);
        Hall.due("n 0", hall.chance(0, 0, 0, 150), -1);
        Hall.due("n 100", hall.chance(0, 100, 0, 150), -1);
        Hall.due("no room", hall.chance(0, 1, 1, 150), -1);
        Hall.due("room -1", hall.chance(0, 1, -1, 150), -1);
        Hall.due("tenths -1", hall.chance(0, 1, 0, -1), -1);
        Hall.due("tenths 601", hall.chance(0, 1, 0, 601), -1);
        Hall.due("the greatest seed", hall.chance(Integer.MAX_VALUE, 99, 0, 150), 10);
    }

    /** The room takes on what is outside: each hour's number shows. */
    private static void everyChance() {
        KnobHall hall = Hall.of("room h 200 0 0;person a h 20 0 0;out 100;knob 5 h;law lose warm - outer;");
        long state = 7;
        int[] outs = new int[30];
        for (int i = 0; i < outs.length; i++) {
            state = (state * 1103515245L + 12345L) & 0x7fffffffL;
            outs[i] = 100 + (int) (state / 65536 % 101) - 50;
        }
        for (int n = 1; n <= 3; n++) {
            for (int tenths = 50; tenths <= 151; tenths++) {
                int due = 0;
                for (int draw = 0; draw < 10; draw++) {
                    due += outs[draw * n + n - 1] >= tenths ? 1 : 0;
                }
                Hall.due("chance(7, " + n + ", 0, " + tenths + ")", hall.chance(7, n, 0, tenths), due);
            }
        }
        Hall.due("nothing changes", hall.count(3), 0);
        Hall.due("nor is it by chance then", hall.ahead(1, 0, 0), 100);
        // Seed 0 gives 12345, by 65536 that is 0: 50 less.
        hall = Hall.of("room h 200 0 0;out 100;knob 5 h;law lose warm - outer;");
        Hall.due("the first one of ten", hall.chance(0, 1, 0, 50), 10);
        Hall.due("is 50 tenths", hall.chance(0, 1, 0, 51), 9);
    }

    private static void limits() {
        KnobHall hall = Hall.of("room h 200 0 0;out 0;knob 5 h;law lose warm - outer;");
        Hall.due("0 at least", hall.chance(5, 1, 0, 0), 10);
        Hall.due("some are above", hall.chance(5, 1, 0, 1) < 10, true);
        hall = Hall.of("room h 200 0 0;out 400;knob 5 h;law lose warm - outer;");
        Hall.due("400 at most", hall.chance(5, 1, 0, 401), 0);
        Hall.due("some are 400", hall.chance(5, 1, 0, 400) > 0, true);
        hall = Hall.of("room h 150 0 10;person a h 15 0 0;person b h 40 0 1;law turn 9 - 18*(wish < 200);");
        // 160, turned to 11: off in the second hour, turned to 20, 170.
        Hall.due("people turn it meanwhile", hall.chance(3, 3, 0, 170), 10);
        Hall.due("no more", hall.chance(3, 3, 0, 171), 0);
    }

    private static void tried() {
        String house = "room h 100 20 30;room s 100 20 30;person a h 20 1 0;person b s 20 0 2;sun s 1 50;out 0;"
            + "knob 20 h;law turn 0-9;law lose 20;";
        KnobHall hall = Hall.of(house);
        // h 110, s 110, turned to 11; off: 90, 140; 100, 150. a feels 100, 110, 90.
        Hall.due("as it goes", hall.ahead(3, 2, 0), 10 + 9 + 11 + (9 + 6 + 5));
        // 110, 110; 120, 170; 130, 180.
        Hall.due("nobody turns", hall.tried(0, 0, 3), 10 + 9 + 8 + (9 + 3 + 2));
        // 110, 110; 90, 90; 100, 100.
        Hall.due("no sun", hall.tried(1, 0, 3), 10 + 9 + 11 + (9 + 11 + 10));
        Hall.due("a isn't there", hall.tried(2, 0, 3), 9 + 3 + 2);
        Hall.due("b isn't there", hall.tried(2, 1, 3), 10 + 9 + 11);
        Hall.due("nobody feels late", hall.tried(3, 0, 3), 9 + 11 + 10 + (9 + 6 + 5));
        // 130, 130, turned to 11; off: 130, 180; 130, 180.
        Hall.due("nothing is lost", hall.tried(4, 0, 3), 10 + 7 + 7 + (7 + 2 + 2));
        Hall.due("nothing changes", hall.count(3) + hall.count(11), 0);
        hall.go(1);
        Hall.due("CROSS more", hall.tried(0, 0, 0), 0);
        hall = Hall.of("room h 100 20 0;person a h 20 0 0;law cross leak;");
        Hall.due("the name leak stays", hall.tried(4, 0, 2), 40);
        hall = Hall.of("room h 100 50 0;person a h 20 0 9;out 300;");
        Hall.due("nor is any gained", hall.tried(4, 0, 2), 20);
    }

    private static void wrongTries() {
        KnobHall hall = Hall.of("room h 100 20 0;person a h 20 0 0;");
        Hall.due("what 5", hall.tried(5, 0, 3), -1);
        Hall.due("what -1", hall.tried(-1, 0, 3), -1);
        Hall.due("n -1", hall.tried(0, 0, -1), -1);
        Hall.due("n 100", hall.tried(0, 0, 100), -1);
        Hall.due("no person", hall.tried(2, 1, 3), -1);
        Hall.due("person -1", hall.tried(2, -1, 3), -1);
        for (int what = 0; what < 5; what++) {
            Hall.due("i 1 of " + what, hall.tried(what, 1, 3), -1);
        }
    }
}
