/** Promises 10 to 14, 41 to 43 and "==== 4.": set, hang, candle, jumper, go, undo, keep, back. */
final class EdgesOfDoing {
    private static final int[] FAR_OFF = {-1, -2, Integer.MIN_VALUE, Integer.MAX_VALUE};
    private static final String HOUSE = "room h 100 0 0;room s 200 0 0;room t 300 0 0;person a h 20 0 1;person b s 20 0 2;";

    private EdgesOfDoing() { }

    static void hold() {
        set();
        hang();
        candle();
        jumper();
        go();
        undoable();
        undo();
        keep();
        back();
        images();
    }

    private static void refused(String call, boolean answer) {
        Hall.due(call, answer, false);
    }

    private static void set() {
        Edge.holds(10, "SET is so much 5 .. 30: true; false: no such one, it is so.", () -> {
            KnobHall hall = Hall.of(HOUSE);
            refused("set(4)", hall.set(4));
            refused("set(31)", hall.set(31));
            refused("set(20), it is so", hall.set(20));
            Hall.due("SET", hall.count(4), 20);
            Hall.due("set(5)", hall.set(5), true);
            Hall.due("SET", hall.count(4), 5);
            refused("set(5), it is so", hall.set(5));
            Hall.due("set(30)", hall.set(30), true);
            Hall.due("SET", hall.count(4), 30);
            refused("set(30), it is so", hall.set(30));
            Hall.due("of a new object", new KnobHall().set(5), true);
            int[] wrong = {4, 31, 0, 17, -1, 256 + 20, Integer.MIN_VALUE, Integer.MAX_VALUE};
            for (int degrees : wrong) {
                Edge.leaves("set(" + degrees + ")", Halls::rich, other -> refused("set(" + degrees + ")", other.set(degrees)));
            }
        });
    }

    private static void hang() {
        Edge.holds(11, "The knob hears a ROOM from now on: true; false: no such one, it does.", () -> {
            KnobHall hall = Hall.of(HOUSE);
            refused("hang(0), it does", hall.hang(0));
            refused("hang(3)", hall.hang(3));
            Hall.due("hang(2)", hall.hang(2), true);
            Hall.due("which it hears", hall.count(5), 2);
            refused("hang(2), it does", hall.hang(2));
            Hall.due("hang(0)", hall.hang(0), true);
            refused("of a new object", new KnobHall().hang(0));
            int[] wrong = {1, 2, -1, 5, Integer.MIN_VALUE, Integer.MAX_VALUE};
            for (int room : wrong) {
                Edge.leaves("hang(" + room + ")", Halls::rich, other -> refused("hang(" + room + ")", other.hang(room)));
            }
            Edge.leaves("hang(0) of a new object", KnobHall::new, other -> other.hang(0));
        });
    }

    private static void candle() {
        Edge.holds(12, "A CANDLE is under the knob from now on, or no more: true; false: it is so.", () -> {
            KnobHall hall = new KnobHall();
            refused("none is", hall.candle(false));
            Hall.due("candle(true)", hall.candle(true), true);
            Hall.due("count(6)", hall.count(6), 1);
            refused("one is", hall.candle(true));
            Hall.due("candle(false)", hall.candle(false), true);
            Hall.due("count(6)", hall.count(6), 0);
            Edge.leaves("candle(true)", Halls::rich, other -> refused("one is", other.candle(true)));
            Edge.leaves("candle(false)", () -> Hall.of(HOUSE), other -> refused("none is", other.candle(false)));
        });
    }

    private static void jumper() {
        Edge.holds(13, "A PERSON has a JUMPER from now on, or no more: true; false: no such one, it is so.", () -> {
            KnobHall hall = Hall.of(HOUSE);
            refused("none has", hall.jumper(1, false));
            Hall.due("jumper(1, true)", hall.jumper(1, true), true);
            Hall.due("who has", hall.person(0, 6) * 10 + hall.person(1, 6), 1);
            refused("it has", hall.jumper(1, true));
            Hall.due("jumper(1, false)", hall.jumper(1, false), true);
            refused("jumper(2, true)", hall.jumper(2, true));
            refused("jumper(2, false)", hall.jumper(2, false));
            refused("of a new object", new KnobHall().jumper(0, true));
            for (int wrong : FAR_OFF) {
                Edge.leaves("jumper(" + wrong + ")", Halls::rich, other -> {
                    refused("jumper(" + wrong + ", true)", other.jumper(wrong, true));
                    refused("jumper(" + wrong + ", false)", other.jumper(wrong, false));
                });
            }
            Edge.leaves("jumper(2)", Halls::rich, other -> refused("jumper(2, true)", other.jumper(2, true)));
            Edge.leaves("jumper(0, true)", Halls::rich, other -> refused("it is so", other.jumper(0, true)));
            // A JUMPER of a text ahead is no one's: a new person 1 has none.
            hall.jumper(1, true);
            Hall.tell(hall, HOUSE);
            refused("jumper(1, false) of a new text", hall.jumper(1, false));
        });
    }

    private static void go() {
        Edge.holds(14, "So many HOURS (0 .. 99) go by: which one it is;", () -> {
            KnobHall hall = Hall.of(HOUSE);
            Hall.due("go(0)", hall.go(0), 0);
            Hall.due("go(1)", hall.go(1), 1);
            Hall.due("go(99)", hall.go(99), 100);
            Hall.due("fire in each of them", hall.count(9), 100);
            Hall.due("go(0)", hall.go(0), 100);
            Edge.leaves("go(0)", Halls::rich, other -> Hall.due("go(0)", other.go(0), 5));
            Hall.due("of a new object", new KnobHall().go(99), 99);
        });
        Edge.holds(14, "NONE, and none does: no such number, behind 9900.", () -> {
            int[] wrong = {-1, 100, 101, Integer.MIN_VALUE, Integer.MAX_VALUE};
            for (int n : wrong) {
                Edge.leaves("go(" + n + ")", Halls::rich, other -> Hall.due("go(" + n + ")", other.go(n), -1));
                Edge.leaves("go(" + n + ") at 9860", Halls::late, other -> Hall.due("go(" + n + ")", other.go(n), -1));
            }
            for (int n = 41; n < 100; n++) {
                Hall.due("go(" + n + ") at 9860", Halls.late().go(n), -1);
            }
            Edge.leaves("go(41) at 9860", Halls::late, other -> other.go(41));
            Edge.leaves("go(99) at 9860", Halls::late, other -> other.go(99));
            Hall.due("go(39) at 9860", Halls.late().go(39), 9899);
            KnobHall hall = Halls.late();
            Hall.due("go(40) at 9860", hall.go(40), 9900);
            Hall.due("go(1) at 9900", hall.go(1), -1);
            Hall.due("go(0) at 9900", hall.go(0), 9900);
            Hall.due("ahead(200) at 9900 goes beyond", hall.ahead(200, 1, 0) >= 0, true);
            Hall.due("back() from there", hall.back(), 0);
            Hall.due("go(99) then", hall.go(99), 99);
        });
    }

    private static void undoable() {
        Edge.holds(41, "==== 4.", "The knob turned, hung, CANDLES, JUMPERS by call can be undone, the latest first (20 at most), if no HOUR went by since.", () -> {
            for (int calls = 19; calls <= 22; calls++) {
                KnobHall hall = Hall.of(HOUSE);
                for (int i = 0; i < calls; i++) {
                    hall.set(5 + i % 26);
                }
                Hall.due("behind " + calls + " calls", hall.count(14), Math.min(20, calls));
                for (int left = Math.min(20, calls) - 1; left >= 0; left--) {
                    Hall.due("undo()", hall.undo(), left);
                    int made = calls - Math.min(20, calls) + left;
                    Hall.due("SET", hall.count(4), made == 0 ? 20 : 4 + made);
                }
                Hall.due("no more", hall.undo(), -1);
            }
            twentyOfAllKinds();
            KnobHall hall = Hall.of(HOUSE);
            hall.set(21);
            hall.go(0);
            Hall.due("behind go(0)", hall.count(14), 1);
            hall.go(100);
            hall.go(-1);
            Hall.due("behind a go that is refused", hall.count(14), 1);
            hall.ahead(9, 1, 0);
            hall.keep();
            hall.wear(1, 5, true);
            Hall.due("behind what isn't to undo", hall.count(14), 1);
            hall.go(1);
            Hall.due("behind an HOUR", hall.count(14), 0);
            Hall.due("undo()", hall.undo(), -1);
            hall.set(22);
            Hall.due("since that HOUR", hall.undo(), 0);
            Hall.due("SET", hall.count(4), 21);
        });
    }

    private static void twentyOfAllKinds() {
        KnobHall hall = Hall.of(HOUSE);
        hall.hang(1);
        for (int i = 0; i < 5; i++) {
            hall.set(10 + i);
            hall.hang(i % 2 == 0 ? 2 : 0);
            hall.candle(i % 2 == 0);
            hall.jumper(1, i % 2 == 0);
        }
        Hall.due("the first one is pushed out", hall.count(14), 20);
        for (int i = 4; i >= 0; i--) {
            Hall.due("undo the jumper", hall.undo(), 4 * i + 3);
            Hall.due("it is", hall.person(1, 6), i % 2);
            Hall.due("undo the candle", hall.undo(), 4 * i + 2);
            Hall.due("it is", hall.count(6), i % 2);
            Hall.due("undo the hanging", hall.undo(), 4 * i + 1);
            Hall.due("it hears", hall.count(5), i == 0 ? 1 : i % 2 == 0 ? 0 : 2);
            Hall.due("undo the turn", hall.undo(), 4 * i);
            Hall.due("SET", hall.count(4), i == 0 ? 20 : 9 + i);
        }
        Hall.due("no more", hall.undo(), -1);
        Hall.due("it still hears", hall.count(5), 1);
    }

    private static void undo() {
        Edge.holds(41, "The latest is undone: how many are left; NONE: none.", () -> {
            Hall.due("of a new object", new KnobHall().undo(), -1);
            KnobHall hall = Hall.of(HOUSE);
            Hall.due("of a new text", hall.undo(), -1);
            hall.set(4);
            hall.set(20);
            hall.hang(0);
            hall.candle(false);
            hall.jumper(0, false);
            Hall.due("refused calls aren't to undo", hall.undo(), -1);
            hall.set(21);
            hall.set(22);
            Hall.due("the latest", hall.undo(), 1);
            Hall.due("SET", hall.count(4), 21);
            Hall.due("the first", hall.undo(), 0);
            Hall.due("SET", hall.count(4), 20);
            Hall.due("none", hall.undo(), -1);
            Hall.due("SET", hall.count(4), 20);
            Edge.leaves("undo()", () -> Hall.of(HOUSE), other -> Hall.due("undo()", other.undo(), -1));
            Edge.leaves("a call and undo()", Halls::rich, other -> {
                other.set(9);
                Hall.due("undo()", other.undo(), 4);
                other.hang(0);
                Hall.due("undo()", other.undo(), 4);
                other.candle(false);
                Hall.due("undo()", other.undo(), 4);
                other.jumper(0, false);
                Hall.due("undo()", other.undo(), 4);
            });
        });
    }

    private static void keep() {
        Edge.holds(42, "An IMAGE is kept (in place of one ahead): which HOUR it is.", () -> {
            KnobHall hall = Hall.of(HOUSE);
            Hall.due("in HOUR 0", hall.keep(), 0);
            hall.go(2);
            Hall.due("in HOUR 2", hall.keep(), 2);
            hall.go(3);
            Hall.due("back to the second one", hall.back(), 2);
            Hall.due("and again", hall.back(), 2);
            Hall.due("of a new object", new KnobHall().keep(), 0);
            hall = Halls.late();
            hall.go(40);
            Hall.due("in the last HOUR", hall.keep(), 9900);
            Hall.due("back there", hall.back(), 9900);
        });
    }

    private static void back() {
        Edge.holds(43, "(nothing to undo then): which HOUR it is; NONE: there is none.", () -> {
            Hall.due("of a new object", new KnobHall().back(), -1);
            Edge.leaves("back() without", () -> Hall.of(HOUSE), other -> Hall.due("back()", other.back(), -1));
            KnobHall hall = Hall.of(HOUSE);
            hall.set(21);
            Hall.due("without", hall.back(), -1);
            Hall.due("still to undo", hall.count(14), 1);
            hall.keep();
            Hall.due("still to undo", hall.count(14), 1);
            hall.set(22);
            Hall.due("back()", hall.back(), 0);
            Hall.due("SET", hall.count(4), 21);
            Hall.due("nothing to undo", hall.count(14), 0);
            Hall.due("undo()", hall.undo(), -1);
            Hall.tell(hall, "room h 1 1 401;");
            Hall.due("behind a text with a FAULT", hall.back(), 0);
            hall.text(1);
            Hall.due("behind a text of -2", hall.back(), 0);
            hall.text(0);
            Hall.due("behind a text", hall.back(), -1);
        });
        Edge.holds(43, "All (but WEAR) is as in the IMAGE", () -> {
            KnobHall hall = Hall.of(HOUSE);
            hall.wear(1, 5, true);
            hall.keep();
            hall.wear(2, 5, true);
            hall.strike(0);
            hall.back();
            Hall.due("WEAR stays", hall.count(12), 3);
            Edge.leaves("what was done since keep()", () -> {
                KnobHall one = Halls.rich();
                one.keep();
                one.back();
                return one;
            }, other -> {
                other.set(9);
                other.hang(0);
                other.candle(false);
                other.jumper(1, false);
                other.jumper(0, false);
                other.go(99);
                Hall.due("back()", other.back(), 5);
            });
            // All that was counted up to the IMAGE, of the last one of each row, too.
            Edge.leaves("back() to what was counted", () -> {
                KnobHall one = Hall.of("room a 100 1 3;room b 150 2 5;person a a 20 0 23;person b b 21 1 22;person c a 25 2 0;"
                    + "person d b 10 0 1;person e a 30 5 23;price 7;");
                one.jumper(4, true);
                one.go(60);
                one.keep();
                return one;
            }, other -> {
                Hall.due("TURNS by now", other.count(10) > 5, true);
                other.jumper(4, false);
                other.set(9);
                other.go(99);
                Hall.due("back()", other.back(), 60);
            });
        });
    }

    private static void images() {
        Edge.holds(42, "==== 4.", "An IMAGE keeps all but WEAR.", () -> {
            KnobHall hall = Hall.of(HOUSE);
            hall.wear(1, 30, true);
            hall.keep();
            hall.strike(0);
            Hall.due("struck", hall.lately(0), 63);
            hall.back();
            Hall.due("struck still", hall.lately(0), 63);
            for (int i = 2; i < 24; i++) {
                hall.wear(1, 5, true);
            }
            hall.back();
            Hall.due("24 of WEAR still", hall.wear(1, 5, true), -1);
            // What people feel late is kept with the hours ahead of the image.
            hall = Hall.of("room h 100 0 10;person a h 20 5 9;knob 30 h;");
            hall.go(7);
            hall.keep();
            hall.go(20);
            hall.back();
            Hall.due("FELT as in HOUR 2", hall.person(0, 4), 120);
            hall.go(1);
            Hall.due("FELT as in HOUR 3", hall.person(0, 4), 130);
        });
    }
}
