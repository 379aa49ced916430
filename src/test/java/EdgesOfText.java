import java.util.function.Supplier;

/** Promises 1 to 5: a new object, feed, text, fault, named. */
final class EdgesOfText {
    private EdgesOfText() { }

    static void hold() {
        newObject();
        feed();
        firstBytes();
        anew();
        fault();
        tooFewBytes();
        latestFault();
        named();
        calls();
    }

    private static void newObject() {
        Edge.holds(1, "A TEXT without LINES; an empty TAPE.", () -> {
            KnobHall hall = new KnobHall();
            int[] counts = {0, 0, 0, 0, 20, -1, 0, 0, 0, 0, 0, 0, 0, 0, 0};
            for (int what = 0; what < counts.length; what++) {
                Hall.due("count(" + what + ")", hall.count(what), counts[what]);
            }
            Hall.due("room(0, 0)", hall.room(0, 0), -1);
            Hall.due("person(0, 0)", Hall.person(hall, 0, 0), -1000);
            Hall.due("out(0)", hall.out(0), 100);
            Hall.due("law(0, 0)", hall.law(0, 0), Long.MIN_VALUE);
            Hall.due("text(1)", hall.text(1), -2);
            Hall.due("feed", hall.feed(0, 0, 0, 0, 0), 20);
            Hall.due("text(0) of a new object", new KnobHall().text(0), 0);
        });
    }

    private static void blanks(KnobHall hall, int feeds) {
        for (int i = 1; i <= feeds; i++) {
            Hall.due("feed " + i, hall.feed(0x20202020, 0x20202020, 0x20202020, 0x20202020, 0x20202020), 20 * i);
        }
    }

    private static KnobHall full() {
        KnobHall hall = new KnobHall();
        blanks(hall, 34);
        // The last bytes of the 700 are a LINE.
        Hall.due("feed 35", hall.feed(0x20202020, 0x20202020, 0x20202020, 0x20206f75, 0x7420373b), 700);
        return hall;
    }

    private static void feed() {
        Edge.holds(2, "Twenty bytes come behind the TAPE, four of each number, the highest first: how many it has;", () -> {
            KnobHall hall = new KnobHall();
            Hall.due("the first", hall.feed(0x6f757420, 0x373b6f75, 0x7420383b, 0x6f757420, 0x393b6f75), 20);
            Hall.due("the second", hall.feed(0x7420363b, 0x20202020, 0x20202020, 0x20202020, 0x20202020), 40);
            Hall.due("text(40)", hall.text(40), 4);
            Hall.due("out(0)", hall.out(0), 7);
            Hall.due("out(3)", hall.out(3), 6);
            // The byte 255 is no blank, though the number that has it is below 0.
            hall.feed(-1, 0x20202020, 0x20202020, 0x20202020, 0x20202020);
            Hall.due("a byte of 255", hall.text(1), -1);
        });
        Edge.holds(2, "NONE, and none come, if it would have more than 700.", () -> {
            KnobHall hall = full();
            Hall.due("feed 36", hall.feed(0, 0, 0, 0, 0), -1);
            Hall.due("feed 37", hall.feed(0, 0, 0, 0, 0), -1);
            Hall.due("text(701)", hall.text(701), -2);
            Hall.due("text(700)", hall.text(700), 1);
            Hall.due("its last bytes", hall.out(0), 7);
            Hall.due("feed behind it", hall.feed(0, 0, 0, 0, 0), 20);
            Edge.leaves("feed 36", EdgesOfText::full, other -> other.feed(-1, -1, -1, -1, -1));
        });
    }

    private static void firstBytes() {
        Edge.holds(3, "The TAPE's first n bytes (it is empty then) are the TEXT", () -> {
            KnobHall hall = new KnobHall();
            hall.feed(0x6f757420, 0x373b6f75, 0x7420383b, 0x6f757420, 0x393b2020);
            Hall.due("text(6), the first LINE alone", hall.text(6), 1);
            Hall.due("out(1)", hall.out(1), 7);
            Hall.due("text(1) then", hall.text(1), -2);
            Hall.due("feed then", hall.feed(0x6f757420, 0x373b6f75, 0x7420383b, 0x6f757420, 0x393b2020), 20);
            Hall.due("text(20), all of it", hall.text(20), 3);
            hall.feed(0x6f757420, 0x373b6f75, 0x7420383b, 0x6f757420, 0x393b2020);
            Hall.due("text(0), none of it", hall.text(0), 0);
            Hall.due("out(0) without", hall.out(0), 100);
            Hall.due("text(1) then", hall.text(1), -2);
            hall.feed(0x6f757420, 0x373b6f75, 0x7420383b, 0x6f757420, 0x393b2020);
            Hall.due("text(5), a ';' short", hall.text(5), -1);
            Hall.due("its place", hall.fault(1), 5);
            Hall.due("empty with a FAULT, too", hall.feed(0, 0, 0, 0, 0), 20);
            // A word and a number end with the TEXT, though the TAPE goes on.
            dueCut("price 1;", 4, 1, 0);
            dueCut("room h 1 1 1;", 6, 1, 6);
            dueCut("out 401;", 6, 1, 6);
            dueCut("out 401;", 7, 2, 4);
            dueCut("law lose 10000;", 13, 1, 13);
            dueCut("law lose warm;", 12, 1, 9);
        });
    }

    /** The FAULT of a text's first bytes. */
    private static void dueCut(String text, int n, int fault, int place) {
        KnobHall hall = new KnobHall();
        int[] numbers = Hall.numbers(Hall.bytes(text));
        hall.feed(numbers[0], numbers[1], numbers[2], numbers[3], numbers[4]);
        Hall.due("text(" + n + ") of " + text, hall.text(n), -1);
        dueFault("text(" + n + ") of " + text, hall, fault, place);
    }

    private static void anew() {
        Edge.holds(3, "(HOUR 0, no CANDLE, no JUMPERS, no WEAR, all KNOWN, no IMAGE, nothing to undo then)", () -> {
            KnobHall hall = Halls.rich();
            hall.known(0);
            hall.text(0);
            Hall.due("of two rooms, none", hall.count(0), 0);
            Hall.due("text", Hall.tell(hall, Halls.HOUSE), Halls.LINES);
            Edge.leaves("texts ahead", () -> Hall.of(Halls.HOUSE), other -> {
                useUp(other);
                Hall.tell(other, Halls.HOUSE);
            });
            Edge.leaves("texts ahead of hours", () -> {
                KnobHall one = Hall.of(Halls.HOUSE);
                one.go(30);
                return one;
            }, other -> {
                useUp(other);
                Hall.tell(other, Halls.HOUSE);
                other.go(30);
            });
            // What isn't told is as without, whatever the texts ahead told.
            Edge.leaves("texts ahead of a short one", () -> {
                KnobHall one = Hall.of("room h 100 9 9;room s 90 1 1;person a h 20 1 0;");
                one.go(30);
                return one;
            }, other -> {
                useUp(other);
                Hall.tell(other, "room h 100 9 9;room s 90 1 1;person a h 20 1 0;");
                other.go(30);
            });
            Hall.due("HOUR", hall.count(3), 0);
            Hall.due("CANDLE", hall.count(6), 0);
            Hall.due("JUMPERS", hall.person(0, 6) + hall.person(1, 6), 0);
            Hall.due("WEAR", hall.count(12), 0);
            hall.wear(1, 5, false);
            Hall.due("all KNOWN", hall.lately(0), 0);
            Hall.due("what can be undone", hall.count(14), 0);
            Hall.due("undo()", hall.undo(), -1);
            Hall.due("back()", hall.back(), -1);
            lastOfEachRow();
        });
    }

    /** The fifth PERSON, HOUR 23, and WEAR where a STRIKE is then. */
    private static void lastOfEachRow() {
        String five = "room h 100 0 0;person a h 20 0 1;person b h 20 0 1;person c h 20 0 1;person d h 20 0 1;person e h 20 0 23;";
        KnobHall hall = Hall.of(five);
        hall.jumper(4, true);
        hall.go(24);
        for (int i = 0; i < 24; i++) {
            hall.wear(8, 30, true);
        }
        Hall.due("the fifth turned it in HOUR 23", hall.learn(23), 25);
        Hall.due("by none", hall.lately(0), 0);
        Hall.due("text", Hall.tell(hall, five), 6);
        Hall.due("no JUMPER of the fifth", hall.person(4, 6), 0);
        Hall.due("nor TURNS, nor CROSS", hall.turnsOf(4, 0) + hall.person(4, 5), 0);
        Hall.due("nothing learnt in HOUR 23", hall.learn(23), -2);
        Hall.due("WEAR anew", hall.wear(8, 5, true), 0);
        Hall.due("a STRIKE", hall.strike(0), 1);
        Hall.due("none KNOWN then", hall.lately(0), 63);
    }

    /** Two texts that tell all, and hours in both: no row of the hall is as it was made. */
    private static void useUp(KnobHall hall) {
        for (int i = 0; i < 2; i++) {
            Hall.tell(hall, "room x 7 7 7;room h 9 9 9;room y 5 5 5;person b h 9 1 1;person a x 1 5 0;person c y 30 2 7;sun h 0 9;"
                + "sun y 7 9;out 9;out 7;out 5;knob 9 y;price 9;law lose 1;law turn 9 - 18*(set > 200);law cross 9;");
            hall.wear(1, 5, false);
            hall.known(0);
            hall.candle(true);
            hall.jumper(0, true);
            hall.jumper(1, true);
            hall.go(30);
            hall.keep();
            hall.set(30);
            hall.hang(1);
        }
    }

    private static void fault() {
        Edge.holds(3, "how many LINES; NONE with a FAULT, all stays;", () -> {
            KnobHall hall = Halls.rich();
            Hall.due("a text with a FAULT", hall.text(40), -1);
            String[] wrong = {"out 401;", "room x 1 1 1;person x y 1 1 1;", "#", "law lose 1", "price 1;price 1;",
                "room x 9 9 9;room h 1 1 1;person c x 1 1 1;out 1;knob 9 x;price 9;law cross 1;sun x 1 99;;"};
            for (String text : wrong) {
                Edge.leavesButTape(text, Halls::rich, other -> {
                    other.text(40);
                    Hall.due(text, Hall.tell(other, text), -1);
                });
            }
            Edge.leavesButTape("a fault of a new object", KnobHall::new, other -> Hall.tell(other, "room h 1 1 1;knob 9 h;!"));
        });
    }

    private static void tooFewBytes() {
        Edge.holds(3, "-2, and the TAPE stays: there are not so many, n is below 0.", () -> {
            KnobHall hall = new KnobHall();
            hall.feed(0x6f757420, 0x373b6f75, 0x7420383b, 0x6f757420, 0x393b2020);
            Hall.due("text(21)", hall.text(21), -2);
            Hall.due("text(-1)", hall.text(-1), -2);
            Hall.due("text(Integer.MAX_VALUE)", hall.text(Integer.MAX_VALUE), -2);
            Hall.due("text(Integer.MIN_VALUE)", hall.text(Integer.MIN_VALUE), -2);
            Hall.due("text(20)", hall.text(20), 3);
            int[] wrong = {41, 42, 700, 701, Integer.MAX_VALUE, -1, -2, Integer.MIN_VALUE};
            for (int n : wrong) {
                Edge.leaves("text(" + n + ")", Halls::rich, other -> Hall.due("text", other.text(n), -2));
            }
            Edge.leaves("text(1)", KnobHall::new, other -> other.text(1));
            Edge.leaves("text(701)", EdgesOfText::full, other -> other.text(701));
        });
    }

    private static void latestFault() {
        Edge.holds(4, "Of the latest text() that was not -2, what 0: its FAULT (0), 1: its place (NONE without).", () -> {
            KnobHall hall = new KnobHall();
            dueFault("without a text()", hall, 0, -1);
            hall.text(1);
            dueFault("-2 of a new object", hall, 0, -1);
            Hall.tell(hall, "out 401;");
            dueFault("the latest", hall, 2, 4);
            hall.text(1);
            hall.text(-1);
            dueFault("behind -2", hall, 2, 4);
            Hall.tell(hall, ";");
            dueFault("at 0", hall, 1, 0);
            hall.text(0);
            dueFault("none", hall, 0, -1);
            Hall.tell(hall, "out");
            dueFault("the length", hall, 1, 3);
            Hall.tell(hall, "out 1;");
            dueFault("none then", hall, 0, -1);
        });
        Edge.holds(4, "NONE for another what.", () -> {
            KnobHall hall = new KnobHall();
            Hall.tell(hall, "out 401;");
            int[] wrong = {-1, 2, Integer.MIN_VALUE, Integer.MAX_VALUE};
            for (int what : wrong) {
                Hall.due("fault(" + what + ")", hall.fault(what), -1);
                Edge.leaves("fault(" + what + ")", Halls::rich, other -> other.fault(what));
            }
            dueFault("as before", hall, 2, 4);
        });
    }

    private static void dueFault(String what, KnobHall hall, int fault, int place) {
        Hall.due(what + ", fault(0)", hall.fault(0), fault);
        Hall.due(what + ", fault(1)", hall.fault(1), place);
    }

    private static void named() {
        Supplier<KnobHall> made = () -> Hall.of("room a 1 1 1;room zzzzzz 1 1 1;room az 1 1 1;room aaaaaa 1 1 1;room z 1 1 1;"
            + "person z a 1 1 1;person b a 1 1 1;person azazaz a 1 1 1;person c a 1 1 1;person aaaaa a 1 1 1;");
        Edge.holds(5, "5 bits each (a is 1; the first one highest of six, 0 behind the last one);", () -> {
            KnobHall hall = made.get();
            Hall.due("a", hall.named(0, 1 << 25), 0);
            Hall.due("zzzzzz", hall.named(0, 26 << 25 | 26 << 20 | 26 << 15 | 26 << 10 | 26 << 5 | 26), 1);
            Hall.due("az", hall.named(0, 1 << 25 | 26 << 20), 2);
            Hall.due("aaaaaa", hall.named(0, 1 << 25 | 1 << 20 | 1 << 15 | 1 << 10 | 1 << 5 | 1), 3);
            Hall.due("z, the fifth", hall.named(0, 26 << 25), 4);
            Hall.due("z, a person", hall.named(1, 26 << 25), 0);
            Hall.due("azazaz", hall.named(1, 1 << 25 | 26 << 20 | 1 << 15 | 26 << 10 | 1 << 5 | 26), 2);
            Hall.due("aaaaa", hall.named(1, 1 << 25 | 1 << 20 | 1 << 15 | 1 << 10 | 1 << 5), 4);
        });
        Edge.holds(5, "NONE: there is none such.", () -> {
            KnobHall hall = made.get();
            int[] wrong = {0, 1, -1, 1 << 20, 1 << 25 | 1, 1 << 30, 1 << 30 | 1 << 25, 1 << 31 | 1 << 25, 2 << 25, Integer.MAX_VALUE};
            for (int letters : wrong) {
                Hall.due("named(0, " + letters + ")", hall.named(0, letters), -1);
            }
            Hall.due("a room is no person", hall.named(1, 1 << 25), -1);
            Hall.due("a person is no room", hall.named(0, 3 << 25), -1);
            Hall.due("what 2", hall.named(2, 1 << 25), -1);
            Hall.due("what -1", hall.named(-1, 1 << 25), -1);
            Hall.due("of a new object", new KnobHall().named(0, 0), -1);
            Hall.due("a person of a new object", new KnobHall().named(1, 0), -1);
            Hall.tell(hall, "room c 1 1 1;");
            Hall.due("of the text ahead", hall.named(0, 26 << 25), -1);
            Hall.due("its person", hall.named(1, 26 << 25), -1);
            Edge.leaves("named", Halls::rich, other -> other.named(0, -1));
        });
    }

    private static void calls() {
        Edge.holds(1, "What it is", "An object is used for at most 512 calls after it has been made;", () -> {
            KnobHall hall = Hall.of("room h 100 0 1;knob 30 h;");
            // The text took two feeds and a text().
            for (int call = 4; call < 512; call++) {
                Hall.due("call " + call, hall.go(1), call - 3);
            }
            // 100 up to 300 in 200 hours, then the stove is off.
            Hall.due("the 512th", hall.room(0, 0), 300);
        });
    }
}
