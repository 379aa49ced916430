import java.util.function.Consumer;

/** Promises 39 and 40: chance, tried. */
final class EdgesOfChance {
    private static final int[] FAR_OFF = {-1, -2, Integer.MIN_VALUE, Integer.MAX_VALUE};
    /** The room is as warm as it is outside in the HOUR ahead, and 100. */
    private static final String OUTSIDE = "room h 200 0 0;knob 5 h;law lose warm - outer - 100;";

    private EdgesOfChance() { }

    static void hold() {
        outs();
        numbers();
        chance();
        asItGoes();
        tried();
    }

    private static void asked(String call, Consumer<KnobHall> question) {
        Edge.leaves(call, Halls::rich, question);
        Edge.leaves(call + " of a new object", KnobHall::new, question);
    }

    /** The numbers from a seed on, by 65536 each. */
    private static int[] drawn(int seed, int how) {
        int[] numbers = new int[how];
        long last = seed;
        for (int i = 0; i < how; i++) {
            last = (last * 1103515245L + 12345L) % 2147483648L;
            numbers[i] = (int) (last / 65536);
        }
        return numbers;
    }

    /** How often it is so WARM at least behind n HOURS by OUT as told there. */
    private static int times(int seed, int n, int told, int tenths) {
        int[] numbers = drawn(seed, 10 * n);
        int times = 0;
        for (int draw = 1; draw <= 10; draw++) {
            int out = told + numbers[draw * n - 1] % 101 - 50;
            times += 100 + Math.max(0, Math.min(400, out)) >= tenths ? 1 : 0;
        }
        return times;
    }

    private static void outs() {
        Edge.holds(39, "==== 3.", "By chance: OUT is more by a number modulo 101 less 50 (0 .. 400), one for each HOUR.", () -> {
            int[] told = {0, 49, 50, 51, 200, 349, 350, 351, 400};
            boolean least = false;
            boolean most = false;
            for (int seed = 0; seed < 60; seed++) {
                for (int number : drawn(seed, 10)) {
                    least |= number % 101 == 0;
                    most |= number % 101 == 100;
                }
                for (int out : told) {
                    KnobHall hall = Hall.of("out " + out + ";" + OUTSIDE);
                    int[] tenths = {100, 101, 100 + out - 50, 100 + out - 49, 100 + out, 100 + out + 50, 100 + out + 51, 499, 500, 501};
                    for (int some : tenths) {
                        if (some >= 0) {
                            Hall.due("chance(" + seed + ", 1, 0, " + some + ") of out " + out,
                                hall.chance(seed, 1, 0, some), times(seed, 1, out, some));
                        }
                    }
                }
            }
            Hall.due("50 less was among them", least, true);
            Hall.due("50 more was among them", most, true);
            // Of OUT as told for each HOUR.
            KnobHall hall = Hall.of("out 50;out 350;" + OUTSIDE);
            Hall.due("the first told", hall.chance(3, 1, 0, 201), 0);
            Hall.due("the second told", hall.chance(3, 2, 0, 400), 10);
            hall.go(1);
            Hall.due("from now", hall.chance(3, 1, 0, 400), 10);
        });
    }

    private static void numbers() {
        Edge.holds(39, "==== 3.", "Numbers are the last one (at first the seed) times 1103515245 and 12345, without what is above 31 bits, by 65536.", () -> {
            KnobHall hall = Hall.of("out 200;" + OUTSIDE);
            int[] seeds = {0, 1, 2, 65535, 65536, 1073741823, 1073741824, 2147483646, 2147483647};
            int[] hours = {1, 2, 98, 99};
            for (int seed : seeds) {
                for (int n : hours) {
                    for (int tenths = 250; tenths <= 351; tenths += 10) {
                        Hall.due("chance(" + seed + ", " + n + ", 0, " + tenths + ")",
                            hall.chance(seed, n, 0, tenths), times(seed, n, 200, tenths));
                    }
                }
            }
        });
    }

    private static void chance() {
        Edge.holds(39, "(numbers from a seed 0 .. 2147483647 on, one behind another; n 1 .. 99 HOURS from now) a ROOM is so WARM 0 .. 600 at least then; NONE: no such ones.", () -> {
            KnobHall hall = Hall.of("room h 400 0 0;room s 0 9 0;knob 5 h;law lose 0 - 200*(leak = 0);");
            Hall.due("seed 0", hall.chance(0, 1, 0, 600), 10);
            Hall.due("the greatest seed", hall.chance(2147483647, 1, 0, 600), 10);
            Hall.due("seed -1", hall.chance(-1, 1, 0, 600), -1);
            Hall.due("the least seed", hall.chance(Integer.MIN_VALUE, 1, 0, 600), -1);
            Hall.due("n 99", hall.chance(0, 99, 0, 600), 10);
            Hall.due("n 0", hall.chance(0, 0, 0, 600), -1);
            Hall.due("n 100", hall.chance(0, 100, 0, 600), -1);
            Hall.due("tenths 601", hall.chance(0, 1, 0, 601), -1);
            Hall.due("tenths 0", hall.chance(0, 1, 1, 0), 10);
            Hall.due("tenths 1", hall.chance(0, 1, 1, 1), 0);
            Hall.due("room 2", hall.chance(0, 1, 2, 0), -1);
            for (int wrong : FAR_OFF) {
                Hall.due("n " + wrong, hall.chance(0, wrong, 0, 600), -1);
                Hall.due("room " + wrong, hall.chance(0, 1, wrong, 0), -1);
                Hall.due("tenths " + wrong, hall.chance(0, 1, 0, wrong), -1);
            }
            Hall.due("of a new object", new KnobHall().chance(0, 1, 0, 0), -1);
            // As it goes but for OUT, whatever was tried ahead of it: nothing lost, nobody turning.
            hall = Hall.of("room h 200 0 10;person a h 30 0 0;law lose outer - outer + 5;law turn 9;");
            hall.tried(4, 0, 3);
            Hall.due("200 - 5, 5 more in two", hall.chance(0, 3, 0, 205), 10);
            Hall.due("no more", hall.chance(0, 3, 0, 206), 0);
            hall.soon(0, 300, 5);
            Hall.due("people turn it", hall.chance(0, 3, 0, 205), 10);
            asked("chance(7, 99, 0, 200)", other -> other.chance(7, 99, 0, 200));
            asked("chance(7, 100, 0, 200)", other -> other.chance(7, 100, 0, 200));
        });
    }

    private static void asItGoes() {
        Edge.holds(15, "==== 2.", "AS IT GOES: by OUT as told.", () -> {
            KnobHall hall = Hall.of("out 200;" + OUTSIDE);
            hall.chance(7, 9, 0, 200);
            Hall.due("ahead() behind chance()", hall.ahead(1, 0, 0), 300);
            Hall.due("out() behind it", hall.out(0), 200);
            hall.go(1);
            Hall.due("an HOUR behind it", hall.room(0, 0), 300);
        });
        Edge.holds(40, "==== 3.", "4 nothing is lost (the NAME leak stays).", () -> {
            KnobHall hall = Hall.of("room h 100 50 0;person a h 20 0 9;out 0;law cross leak + felt;");
            Hall.due("nothing is lost", hall.tried(4, 0, 2), 300);
            hall = Hall.of("room h 100 50 0;person a h 20 0 9;law lose 100;law cross leak + felt;");
            Hall.due("nor by a law", hall.tried(4, 0, 2), 300);
        });
        Edge.holds(40, "==== 3.", "0 nobody turns, 1 no SUN", () -> {
            KnobHall hall = Hall.of("room h 100 0 0;person a h 20 0 0;sun h 0 30;law turn 1;law cross felt + set;knob 5 h;");
            // 130 from HOUR 0 on, SET 6.
            Hall.due("as it goes", hall.ahead(2, 2, 0), 2 * (130 + 60));
            Hall.due("nobody turns", hall.tried(0, 0, 2), 2 * (130 + 50));
            Hall.due("no SUN", hall.tried(1, 0, 2), 2 * (100 + 60));
            Hall.due("as it goes still", hall.ahead(2, 2, 0), 2 * (130 + 60));
        });
        Edge.holds(40, "==== 3.", "3 nobody feels LATE", () -> {
            KnobHall hall = Hall.of("room h 100 0 10;person a h 20 5 9;person b h 20 1 9;knob 30 h;law cross felt;");
            Hall.due("as it goes", hall.ahead(2, 2, 0), 100 + 100 + 100 + 110);
            Hall.due("nobody feels LATE", hall.tried(3, 0, 2), 110 + 110 + 120 + 120);
            Hall.due("as it goes still", hall.ahead(2, 2, 0), 410);
        });
        Edge.holds(40, "==== 3.", "2 PERSON i isn't there", () -> {
            KnobHall hall = Hall.of("room h 100 0 0;person a h 20 0 0;person b h 20 0 1;law turn 1;law cross wish/100 + set/10;");
            // a turns it to 21 in HOUR 0, b to 22 in HOUR 1, each is CROSS by 2 and SET.
            Hall.due("as it goes", hall.ahead(2, 2, 0), 2 * (23 + 24));
            Hall.due("without a", hall.tried(2, 0, 2), 22 + 23);
            Hall.due("without b", hall.tried(2, 1, 2), 23 + 23);
            hall.go(2);
            Hall.due("more, not so far", hall.tried(2, 1, 1), 24);
        });
    }

    private static void tried() {
        Edge.holds(40, "TRIED (n 0 .. 99); NONE: no such ones (i 0 of all but 2).", () -> {
            KnobHall hall = Hall.of("room h 100 0 0;person a h 20 0 0;person b h 20 0 0;law cross 7;");
            for (int what = 0; what <= 4; what++) {
                int all = what == 2 ? 7 : 14;
                Hall.due("tried(" + what + ", 0, 0)", hall.tried(what, 0, 0), 0);
                Hall.due("tried(" + what + ", 0, 1)", hall.tried(what, 0, 1), all);
                Hall.due("tried(" + what + ", 0, 99)", hall.tried(what, 0, 99), 99 * all);
                Hall.due("tried(" + what + ", 0, 100)", hall.tried(what, 0, 100), -1);
                Hall.due("tried(" + what + ", 1, 1)", hall.tried(what, 1, 1), what == 2 ? 7 : -1);
                Hall.due("tried(" + what + ", 2, 1)", hall.tried(what, 2, 1), -1);
                for (int wrong : FAR_OFF) {
                    Hall.due("tried(" + what + ", " + wrong + ", 1)", hall.tried(what, wrong, 1), -1);
                    Hall.due("tried(" + what + ", 0, " + wrong + ")", hall.tried(what, 0, wrong), -1);
                }
                Hall.due("of a new object", new KnobHall().tried(what, 0, 99), what == 2 ? -1 : 0);
                int asking = what;
                asked("tried(" + what + ", 0, 99)", other -> other.tried(asking, 0, 99));
                asked("tried(" + what + ", 0, 100)", other -> other.tried(asking, 0, 100));
            }
            Hall.due("tried(5, 0, 1)", hall.tried(5, 0, 1), -1);
            for (int wrong : FAR_OFF) {
                Hall.due("tried(" + wrong + ", 0, 1)", hall.tried(wrong, 0, 1), -1);
            }
        });
    }
}
