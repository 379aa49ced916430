/** Promises 1 to 5: a new object, feed, text, fault, named. */
public final class TextTest {
    private static final String TWO = "room h 1 1 1;room s 2 2 2;";

    public static void main(String[] args) {
        newObject();
        feeding();
        telling();
        tokens();
        limitsOfNumbers();
        tooMany();
        toldAlready();
        rooms();
        formulas();
        firstOfSeveral();
        allStaysWithAFault();
        names();
        Hall.end();
    }

    private static void newObject() {
        KnobHall hall = new KnobHall();
        int[] counts = {0, 0, 0, 0, 20, -1, 0, 0, 0, 0, 0, 0, 0, 0, 0, -1};
        for (int what = 0; what < counts.length; what++) {
            Hall.due("new count(" + what + ")", hall.count(what), counts[what]);
        }
        Hall.due("new fault(0)", hall.fault(0), 0);
        Hall.due("new fault(1)", hall.fault(1), -1);
        Hall.due("new fault(2)", hall.fault(2), -1);
        Hall.due("new fault(-1)", hall.fault(-1), -1);
        Hall.due("new text(1)", hall.text(1), -2);
        Hall.due("new text(0)", hall.text(0), 0);
        Hall.due("new back()", hall.back(), -1);
    }

    private static void feeding() {
        KnobHall hall = new KnobHall();
        for (int i = 1; i <= 35; i++) {
            Hall.due("feed " + i, hall.feed(0x6f757420, 0x373b2020, 0x20202020, 0x20202020, 0x20202020), 20 * i);
        }
        Hall.due("feed 36", hall.feed(0, 0, 0, 0, 0), -1);
        Hall.due("text(701)", hall.text(701), -2);
        Hall.due("text(-1)", hall.text(-1), -2);
        Hall.due("text(Integer.MIN_VALUE)", hall.text(Integer.MIN_VALUE), -2);
        Hall.due("text(Integer.MAX_VALUE)", hall.text(Integer.MAX_VALUE), -2);
        Hall.due("text(160), eight weathers", hall.text(160), 8);
        Hall.due("the tape is empty then", hall.feed(0x6f757420, 0x373b206f, 0x75742038, 0x3b000000, -1), 20);
        Hall.due("text(14) of 20", hall.text(13), 2);
        Hall.due("out(0)", hall.out(0), 7);
        Hall.due("out(1)", hall.out(1), 8);
        Hall.due("the rest of the tape is gone", hall.text(1), -2);
        hall.feed(-1, -1, -1, -1, -1);
        Hall.due("bytes of 255", hall.text(1), -1);
        Hall.due("are no token", hall.fault(0) * 10 + hall.fault(1), 10);
    }

    private static void telling() {
        KnobHall hall = new KnobHall();
        Hall.due("blanks alone", Hall.tell(hall, "  \n "), 0);
        Hall.due("a text of all lines", Hall.tell(hall, "room h 180 10 20 ;\nperson a h 20 0 7;sun h 10 40;"
            + "out 100;knob 21 h;price 5;law lose 1;law turn 2;law cross 3;"), 9);
        Hall.due("fault(0)", hall.fault(0), 0);
        Hall.due("fault(1)", hall.fault(1), -1);
        Hall.due("without blanks between word and number", Hall.tell(hall, "out7;room h1 2 3;"), 2);
        Hall.due("WARM", hall.room(0, 0), 1);
        Hall.due("digits in front of the number", Hall.tell(hall, "out 000000000000000000399;"), 1);
        Hall.due("out", hall.out(5), 399);
        Hall.due("the edges", Hall.tell(hall, "room h 400 99 99;person a h 40 5 23;sun h 23 99;out 400;knob 30 h;"
            + "price 99;law lose 9999;"), 7);
        Hall.due("the other edges", Hall.tell(hall, "room h 0 0 0;person a h 0 0 0;sun h 0 0;out 0;knob 5 h;price 0;"), 6);
    }

    private static void tokens() {
        Hall.dueFault("room", 1, 4);
        Hall.dueFault("room  ", 1, 6);
        Hall.dueFault("room h 1 1 1", 1, 12);
        Hall.dueFault("room h 1 1;", 1, 10);
        Hall.dueFault("room h 1 1 1 1;", 1, 13);
        Hall.dueFault(";", 1, 0);
        Hall.dueFault("out 1;;", 1, 6);
        Hall.dueFault("Room h 1 1 1;", 1, 0);
        Hall.dueFault("out\t1;", 1, 3);
        Hall.dueFault("out 1;\r", 1, 6);
        Hall.dueFault("out -1;", 1, 4);
        Hall.dueFault("out h;", 1, 4);
        Hall.dueFault("rooms h 1 1 1;", 1, 0);
        Hall.dueFault("lose 1;", 1, 0);
        Hall.dueFault("h 1 1 1;", 1, 0);
        Hall.dueFault("room abcdefg 1 1 1;", 1, 5);
        Hall.dueFault("room set 1 1 1;", 1, 5);
        Hall.dueFault("room person 1 1 1;", 1, 5);
        Hall.dueFault("room 7 1 1 1;", 1, 5);
        Hall.dueFault("room h 1 h 1;", 1, 9);
        Hall.dueFault("room h 1 1 1;person set h 1 1 1;", 1, 20);
        Hall.dueFault("room h 1 1 1;person a set 1 1 1;", 1, 22);
        Hall.dueFault("room h 1 1 1;person a abcdefg 1 1 1;", 1, 22);
        Hall.dueFault("room h 1 1 1;knob h 20;", 1, 18);
        Hall.dueFault("law;", 1, 3);
        Hall.dueFault("law wish 1;", 1, 4);
        Hall.dueFault("law or 1;", 1, 4);
        Hall.dueFault("law law 1;", 1, 4);
        Hall.dueFault("price 1", 1, 7);
    }

    private static void limitsOfNumbers() {
        Hall.dueFault("room h 401 1 1;", 2, 7);
        Hall.dueFault("room h 1 100 1;", 2, 9);
        Hall.dueFault("room h 1 1 100;", 2, 11);
        Hall.dueFault("room h 99999999999999999999 1 1;", 2, 7);
        Hall.dueFault("room h 4294967297 1 1;", 2, 7);
        Hall.dueFault("room h 1 1 1;person a h 41 1 1;", 2, 24);
        Hall.dueFault("room h 1 1 1;person a h 1 6 1;", 2, 26);
        Hall.dueFault("room h 1 1 1;person a h 1 1 24;", 2, 28);
        Hall.dueFault("room h 1 1 1;sun h 24 1;", 2, 19);
        Hall.dueFault("room h 1 1 1;sun h 1 100;", 2, 21);
        Hall.dueFault("out 401;", 2, 4);
        Hall.dueFault("room h 1 1 1;knob 4 h;", 2, 18);
        Hall.dueFault("room h 1 1 1;knob 31 h;", 2, 18);
        Hall.dueFault("price 100;", 2, 6);
        Hall.dueFault("law lose 10000;", 2, 9);
    }

    private static void tooMany() {
        String five = "room a 1 1 1;room b 1 1 1;room c 1 1 1;room d 1 1 1;room e 1 1 1;";
        Hall.due("five rooms", Hall.tell(new KnobHall(), five), 5);
        Hall.dueFault(five + "room f 1 1 1;", 2, 65);
        Hall.dueFault(five + "room", 2, 65);
        String people = "room h 1 1 1;person a h 1 1 1;person b h 1 1 1;person c h 1 1 1;person d h 1 1 1;person e h 1 1 1;";
        Hall.due("five people", Hall.tell(new KnobHall(), people), 6);
        Hall.dueFault(people + "person a h 1 1 1;", 2, 98);
        String suns = "room h 1 1 1;sun h 1 1;sun h 1 1;sun h 1 1;sun h 1 1;";
        Hall.due("four suns", Hall.tell(new KnobHall(), suns), 5);
        Hall.dueFault(suns + "sun h 1 1;", 2, 53);
        String outs = "out 1;out 1;out 1;out 1;out 1;out 1;out 1;out 1;";
        Hall.due("eight weathers", Hall.tell(new KnobHall(), outs), 8);
        Hall.dueFault(outs + "out 1;", 2, 48);
    }

    private static void toldAlready() {
        Hall.dueFault("room h 1 1 1;room h 1 1 1;", 3, 18);
        Hall.dueFault("room h 1 1 1;person a h 1 1 1;person a h 1 1 1;", 3, 37);
        Hall.dueFault("room h 1 1 1;knob 20 h;knob 20 h;", 3, 23);
        Hall.dueFault("price 1;price 1;", 3, 8);
        Hall.dueFault("law lose 1;law lose 1;", 3, 15);
        Hall.dueFault("law turn 1;law cross 1;law lose 1;law turn 1;", 3, 38);
        Hall.due("a room's and a person's name alike", Hall.tell(new KnobHall(), "room h 1 1 1;person h h 1 1 1;"), 2);
    }

    private static void rooms() {
        Hall.dueFault("person a h 1 1 1;", 4, 9);
        Hall.dueFault("person a h 1 1 1;room h 1 1 1;", 4, 9);
        Hall.dueFault("sun h 1 1;", 4, 4);
        Hall.dueFault("knob 20 h;", 4, 8);
        Hall.dueFault(TWO + "knob 20 hs;", 4, 34);
        Hall.due("the second room", Hall.tell(new KnobHall(), TWO + "knob 20 s;person h s 1 1 1;"), 4);
    }

    private static String repeat(String part, int times) {
        return part.repeat(times);
    }

    private static void formulas() {
        Hall.due("eight brackets", Hall.tell(new KnobHall(), "law lose ((((((((1))))))));"), 1);
        Hall.dueFault("law lose (((((((((1)))))))));", 2, 17);
        Hall.due("ten brackets, one at a time", Hall.tell(new KnobHall(), "law lose " + repeat("(1)+", 10) + "1;"), 1);
        KnobHall hall = new KnobHall();
        Hall.due("64 knots", Hall.tell(hall, "law lose " + repeat("not ", 63) + "1;"), 1);
        Hall.due("count(2)", hall.count(2), 64);
        Hall.dueFault("law lose " + repeat("not ", 64) + "1;", 2, 265);
        Hall.dueFault("law lose " + repeat("not ", 64) + ";", 1, 265);
        Hall.dueFault("law lose " + repeat("1+", 32) + "1;", 2, 73);
        Hall.dueFault("law lose " + repeat("1+", 31) + "1;law turn 1+1;", 2, 83);
        for (int i = 0; i < 5; i++) {
            Hall.due("64 knots time and again", Hall.tell(hall, "room h 1 1 1;law turn 1;law lose " + repeat("1+", 31) + "1;"), 3);
            Hall.due("its value", hall.law(0, 0), 32);
            Hall.due("no turn's", hall.law(1, 0), Long.MIN_VALUE);
        }
        Hall.due("brackets are no knots", Hall.tell(hall, "law lose (1+2)*(3);"), 1);
        Hall.due("count(2) with brackets", hall.count(2), 5);
        Hall.dueFault("law lose 1<2<3;", 1, 12);
        Hall.dueFault("law lose 1 < = 2;", 1, 13);
        Hall.dueFault("law lose 1 => 2;", 1, 12);
        Hall.dueFault("law lose 1 <>= 2;", 1, 13);
        Hall.dueFault("law lose 1 + not 2;", 1, 13);
        Hall.dueFault("law lose 1 = not 2;", 1, 13);
        Hall.dueFault("law lose 1 not 2;", 1, 11);
        Hall.dueFault("law lose -1;", 1, 9);
        Hall.dueFault("law lose 1 2;", 1, 11);
        Hall.dueFault("law lose 1 (2);", 1, 11);
        Hall.dueFault("law lose (1;", 1, 11);
        Hall.dueFault("law lose 1);", 1, 10);
        Hall.dueFault("law lose ();", 1, 10);
        Hall.dueFault("law lose 1 and;", 1, 14);
        Hall.dueFault("law lose h;", 1, 9);
        Hall.dueFault("law lose cross;", 1, 9);
        Hall.dueFault("law lose 1 + 1", 1, 14);
        Hall.dueFault("law lose 10000 + ;", 2, 9);
        Hall.due("comparisons in brackets", Hall.tell(hall, "law lose (1<2)<(2>3) and 1<>2 or not 1>=2;"), 1);
        Hall.due("its knots", hall.count(2), 16);
    }

    private static void firstOfSeveral() {
        Hall.dueFault("out 401;room set", 2, 4);
        Hall.dueFault("price 1;price 100;", 3, 8);
        Hall.dueFault("room h 401 100 #", 2, 7);
    }

    private static void allStaysWithAFault() {
        KnobHall hall = Hall.of("room h 150 0 0;person a h 20 0 1;knob 25 h;");
        hall.go(3);
        hall.keep();
        hall.candle(true);
        hall.wear(1, 20, true);
        hall.known(0);
        Hall.due("a fault", Hall.tell(hall, "room h 150 0 0;out 500;"), -1);
        int[] counts = {1, 1, 0, 3, 26, 0, 1, 1, 9, 3, 1, 15, 1, 0, 1};
        for (int what = 0; what < counts.length; what++) {
            Hall.due("count(" + what + ") behind a fault", hall.count(what), counts[what]);
        }
        Hall.due("text(1)", hall.text(1), -2);
        Hall.due("fault(0) stays by -2", hall.fault(0), 2);
        Hall.due("fault(1) stays by -2", hall.fault(1), 19);
        Hall.due("back()", hall.back(), 3);
        hall.candle(true);
        hall.jumper(0, true);
        Hall.due("a good one", Hall.tell(hall, "room h 150 0 0;person a h 20 0 1;"), 2);
        int[] anew = {1, 1, 0, 0, 20, 0, 0, 1, 0, 0, 0, 0, 0, 0, 0};
        for (int what = 0; what < anew.length; what++) {
            Hall.due("count(" + what + ") of a new text", hall.count(what), anew[what]);
        }
        Hall.due("no jumper", hall.person(0, 6), 0);
        Hall.due("no law told by the text ahead", Hall.tell(hall, "room h 1 1 1;room s 1 1 1;law lose 1;sun h 0 9;out 7;"
            + "price 9;knob 9 s;person a h 1 1 1;"), 8);
        hall.go(3);
        Hall.due("another", Hall.tell(hall, "room s 200 0 0;person b s 20 5 0;"), 2);
        Hall.due("no lose", hall.law(0, 0), Long.MIN_VALUE);
        Hall.due("no sun", hall.room(0, 3), 0);
        Hall.due("out", hall.out(0), 100);
        Hall.due("SET, which it hears", hall.count(4) * 10 + hall.count(5), 200);
        Hall.due("what was hours ago is as told", hall.person(0, 4), 200);
        hall.set(21);
        hall.go(1);
        Hall.due("the price", hall.count(8), 3);
        Hall.tell(hall, "room h 150 0 0;person a h 20 0 1;");
        Hall.due("no image", hall.back(), -1);
        Hall.due("nothing to undo", hall.undo(), -1);
        Hall.due("nothing learnt", hall.learn(1), -2);
        Hall.due("nobody turned", hall.turnsOf(0, 0), 0);
        Hall.due("fault(0)", hall.fault(0), 0);
        Hall.due("fault(1)", hall.fault(1), -1);
    }

    private static void names() {
        KnobHall hall = Hall.of("room h 1 1 1;room sixsix 1 1 1;person z h 1 1 1;person h h 1 1 1;");
        Hall.due("room h", hall.named(0, 8 << 25), 0);
        Hall.due("room sixsix", hall.named(0, Hall.letters("sixsix")), 1);
        Hall.due("person h", hall.named(1, 8 << 25), 1);
        Hall.due("person z", hall.named(1, 26 << 25), 0);
        Hall.due("no room z", hall.named(0, 26 << 25), -1);
        Hall.due("h lowest", hall.named(0, 8), -1);
        Hall.due("no letters", hall.named(0, 0), -1);
        Hall.due("below 0", hall.named(0, -1), -1);
        Hall.due("h with a higher bit", hall.named(0, 8 << 25 | 1 << 30), -1);
        Hall.due("another what", hall.named(2, 8 << 25), -1);
        Hall.due("what -1", hall.named(-1, 8 << 25), -1);
    }
}
