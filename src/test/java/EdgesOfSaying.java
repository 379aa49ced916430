import java.util.function.Consumer;

/** Promises 26 and 27: rests, rest. */
final class EdgesOfSaying {
    private static final int[] FAR_OFF = {-1, -2, Integer.MIN_VALUE, Integer.MAX_VALUE};

    private EdgesOfSaying() { }

    static void hold() {
        sayings();
        limits();
        rests();
        rest();
    }

    private static void asked(String call, Consumer<KnobHall> question) {
        Edge.leaves(call, Halls::rich, question);
        Edge.leaves(call + " of a new object", KnobHall::new, question);
    }

    private static KnobHall two(int one, int other) {
        return Hall.of("room h 100 0 0;person a h " + one + " 0 0;person b h " + other + " 0 0;");
    }

    /** The RESTS of two in their order. */
    private static void due(int one, int other, int... rests) {
        KnobHall hall = two(one, other);
        Hall.due("rests of " + one + ", " + other, hall.rests(0, 1), rests.length);
        for (int k = 0; k < rests.length; k++) {
            Hall.due("rest " + k + " of " + one + ", " + other, hall.rest(0, 1, k), rests[k]);
        }
        Hall.due("no more of " + one + ", " + other, hall.rest(0, 1, rests.length), -2);
    }

    private static void limits() {
        Edge.holds(26, "==== 3.", "SET is the mean of what both say, cut, 5 .. 30;", () -> {
            // One says two more and the other one two less: who said the truth alone would have it a degree off, which is
            // worse than 6; but where 5 or 30 is the end it isn't off.
            due(6, 6, 0, 12, 21);
            due(5, 5, 0);
            due(4, 4, 0);
            due(29, 29, 0, 12, 21);
            due(30, 30, 0);
            due(31, 31, 0);
            due(0, 0, 0);
            due(40, 40, 0);
            // 41 by 2 is 20: a has it. b would say more, a then less: 18 and 23 are 20, where neither gains.
            due(20, 21, 21);
            due(21, 20, 12);
            due(6, 7, 21);
            // Near the end who is off would say otherwise again and again: no REST at all.
            due(5, 6);
            due(4, 6);
            due(29, 31);
            due(20, 40);
            // However far they are apart, each has it a degree nearer for 6.
            due(0, 40, 21);
        });
        Edge.holds(26, "==== 3.", "each loses how far ten times that is from ten times what one WANTS,", () -> {
            // 20 and 24: by the truth it is 22, twenty off for both; each would have it a degree nearer for 6, and then
            // who said the truth alone would have it thirty off: both lie, and it is 22 still.
            due(20, 24, 21);
            due(24, 20, 12);
            // 33 and 26: 29 is forty off for the one, thirty for the other one.
            due(33, 26, 12);
            // As far off whatever one says: 30 from both of 36 and 38, 5 from both of 1 and 3.
            due(36, 38, 0);
            due(38, 36, 0);
            due(1, 3, 0);
            due(3, 1, 0);
        });
        Edge.holds(26, "==== 3.", "and 6, if one didn't say what one WANTS.", () -> {
            // 20 and 22: by the truth 21, ten off for both; by two less a has it: 6.
            due(20, 22, 21);
            due(22, 20, 12);
            // 10 and 10: 6 for nothing isn't a REST of 11, where a would say less.
            due(10, 10, 0, 12, 21);
        });
    }

    private static void sayings() {
        Edge.holds(26, "==== 3.", "SAY of two PEOPLE: each says 0 what one WANTS, 1 two degrees more, 2 two less;", () -> {
            // Beyond what one may want: -2 and 42 are 20, as -1 and 41 are.
            due(0, 40, 21);
            due(40, 0, 12);
            due(1, 39, 21);
            due(39, 1, 12);
        });
        Edge.holds(26, "==== 3.", "A REST: neither would lose less by saying otherwise.", () -> {
            // One says two more, one two less, and both lose 6; by the truth one would have it a degree off and lose 10.
            due(7, 7, 0, 12, 21);
            due(28, 28, 0, 12, 21);
            // One alone who would is enough.
            due(5, 6);
            due(6, 5);
        });
    }

    private static void rests() {
        Edge.holds(26, "How many RESTS SAY has; NONE: no such ones, alike.", () -> {
            KnobHall hall = two(20, 20);
            Hall.due("rests(0, 1)", hall.rests(0, 1), 3);
            Hall.due("rests(1, 0)", hall.rests(1, 0), 3);
            Hall.due("rests(0, 0)", hall.rests(0, 0), -1);
            Hall.due("rests(1, 1)", hall.rests(1, 1), -1);
            Hall.due("rests(0, 2)", hall.rests(0, 2), -1);
            Hall.due("rests(2, 0)", hall.rests(2, 0), -1);
            Hall.due("rests(2, 3)", hall.rests(2, 3), -1);
            for (int wrong : FAR_OFF) {
                Hall.due("rests(0, " + wrong + ")", hall.rests(0, wrong), -1);
                Hall.due("rests(" + wrong + ", 0)", hall.rests(wrong, 0), -1);
            }
            Hall.due("of a new object", new KnobHall().rests(0, 1), -1);
            asked("rests(0, 1)", other -> other.rests(0, 1));
            asked("rests(1, 1)", other -> other.rests(1, 1));
        });
    }

    private static void rest() {
        Edge.holds(27, "The k-th: ten times what the first one says and the second one;", () -> {
            KnobHall hall = two(20, 20);
            Hall.due("0 and 0", hall.rest(0, 1, 0), 0);
            Hall.due("1 and 2", hall.rest(0, 1, 1), 12);
            Hall.due("2 and 1", hall.rest(0, 1, 2), 21);
        });
        Edge.holds(27, "==== 3.", "RESTS: by what the first one says, then the second one.", () -> {
            due(20, 20, 0, 12, 21);
            KnobHall hall = two(20, 22);
            Hall.due("a less, b more", hall.rest(0, 1, 0), 21);
            Hall.due("b more, a less", hall.rest(1, 0, 0), 12);
        });
        Edge.holds(27, "-2: there are no so many; NONE likewise, k is below 0.", () -> {
            KnobHall hall = two(20, 20);
            Hall.due("the first", hall.rest(0, 1, 0), 0);
            Hall.due("the last", hall.rest(0, 1, 2), 21);
            Hall.due("behind it", hall.rest(0, 1, 3), -2);
            Hall.due("far behind it", hall.rest(0, 1, 9), -2);
            Hall.due("farthest", hall.rest(0, 1, Integer.MAX_VALUE), -2);
            Hall.due("k -1", hall.rest(0, 1, -1), -1);
            Hall.due("k least", hall.rest(0, 1, Integer.MIN_VALUE), -1);
            Hall.due("alike", hall.rest(1, 1, 0), -1);
            Hall.due("alike, no so many", hall.rest(1, 1, 9), -1);
            Hall.due("rest(0, 2, 0)", hall.rest(0, 2, 0), -1);
            Hall.due("rest(2, 0, 0)", hall.rest(2, 0, 0), -1);
            Hall.due("rest(0, 2, 99)", hall.rest(0, 2, 99), -1);
            for (int wrong : FAR_OFF) {
                Hall.due("rest(0, " + wrong + ", 0)", hall.rest(0, wrong, 0), -1);
                Hall.due("rest(" + wrong + ", 0, 0)", hall.rest(wrong, 0, 0), -1);
            }
            Hall.due("of a new object", new KnobHall().rest(0, 1, 0), -1);
            asked("rest(0, 1, 0)", other -> other.rest(0, 1, 0));
            asked("rest(0, 1, -1)", other -> other.rest(0, 1, -1));
        });
    }
}
