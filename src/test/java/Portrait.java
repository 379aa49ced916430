import java.util.ArrayList;
import java.util.List;

/** All that can be seen of a hall, down to what can be undone, its image and its tape; looking uses the hall up. */
final class Portrait {
    private final KnobHall hall;
    private final List<String> seen = new ArrayList<>();

    Portrait(KnobHall hall) {
        this.hall = hall;
    }

    List<String> whole(boolean butTape) {
        now();
        hours();
        wear();
        if (!butTape) {
            see("fault(0)", hall.fault(0));
            see("fault(1)", hall.fault(1));
        }
        past();
        image();
        gone();
        if (!butTape) {
            tape();
        }
        return seen;
    }

    private void see(String call, long answer) {
        seen.add(call + " " + answer);
    }

    private void now() {
        for (int what = 0; what <= 14; what++) {
            see("count(" + what + ")", hall.count(what));
        }
        for (int room = 0; room < hall.count(0); room++) {
            for (int what = 0; what < 4; what++) {
                see("room(" + room + ", " + what + ")", hall.room(room, what));
            }
        }
        for (int person = 0; person < hall.count(1); person++) {
            for (int what = 0; what < 7; what++) {
                see("person(" + person + ", " + what + ")", hall.person(person, what));
            }
            see("turnsOf(" + person + ", 0)", hall.turnsOf(person, 0));
        }
        for (int hour = 0; hour < 24; hour++) {
            see("learn(" + hour + ")", hall.learn(hour));
        }
    }

    private void hours() {
        for (int what = 0; what < 3; what++) {
            see("law(" + what + ", 0)", hall.law(what, 0));
        }
        for (int hour = 0; hour < 9; hour++) {
            see("out(" + hour + ")", hall.out(hour));
        }
        see("ahead(30, 0, 0)", hall.ahead(30, 0, 0));
        for (int what = 1; what < 4; what++) {
            see("ahead(30, " + what + ", 0)", hall.ahead(30, what, 0));
        }
    }

    private void wear() {
        for (int person = 0; person < hall.count(1); person++) {
            see("lately(" + person + ")", hall.lately(person));
        }
    }

    private void small() {
        for (int what = 4; what <= 7; what++) {
            see("count(" + what + ")", hall.count(what));
        }
        for (int person = 0; person < hall.count(1); person++) {
            see("person(" + person + ", 6)", hall.person(person, 6));
        }
    }

    private void past() {
        for (int left = hall.undo(); left != -1; left = hall.undo()) {
            see("undo()", left);
            small();
        }
    }

    private void image() {
        see("back()", hall.back());
        now();
    }

    private void gone() {
        see("go(9)", hall.go(9));
        now();
    }

    /** A tape is a number of feeds long; asked for too many bytes it stays, so the first answer but -2 is that of all. */
    private void tape() {
        int answer = -2;
        for (int length = 700; length >= 0 && answer == -2; length -= 20) {
            answer = hall.text(length);
            see("text(" + length + ")", answer);
        }
        see("its fault", hall.fault(0));
        see("its place", hall.fault(1));
        for (int what = 0; what < 5; what++) {
            see("its count(" + what + ")", hall.count(what));
        }
        see("its out", hall.out(0));
    }
}
