import java.util.Random;

/** Runs of calls by a fixed seed, each answer compared with the model's. */
public final class ModelTest {
    private static final String[] WORDS = {"room", "person", "sun", "out", "knob", "price", "law", "lose", "turn",
        "cross", "or", "and", "not", "warm", "outer", "felt", "wish", "set", "leak", "hour", "h", "s", "a", "b",
        "toolong", "sixsix", ";", "(", ")", "<", "<=", "=", "<>", ">=", ">", "+", "-", "*", "/", "1", "23", "400",
        "401", "9999", "10000", "99999999999999999999", "A", "#", "\t", "\n", "\u00e9"};
    private static final String[] NAMES = {"warm", "outer", "felt", "wish", "set", "leak", "hour"};
    private static final String[] SIGNS = {"+", "-", "*", "/", "+", "-", "<", "<=", "=", "<>", ">=", ">", "and", "or"};

    private final Random random;
    private final KnobHall hall = new KnobHall();
    private final Model model = new Model();
    private final StringBuilder said = new StringBuilder();

    private ModelTest(long seed) {
        random = new Random(seed);
    }

    private int upTo(int most) {
        return random.nextInt(most + 1);
    }

    /** Mostly within, now and then just beyond or far away. */
    private int about(int least, int most) {
        int which = upTo(39);
        if (which == 0) {
            return least - 1;
        }
        if (which == 1) {
            return most + 1;
        }
        if (which == 2) {
            return random.nextInt();
        }
        if (which == 3) {
            return most;
        }
        return which == 4 ? least : least + random.nextInt(most - least + 1);
    }

    /** Great values, near and beyond those that are an ERROR. */
    private String product() {
        StringBuilder product = new StringBuilder(upTo(2) == 0 ? "(0 - " : "(");
        product.append(upTo(9999));
        for (int i = upTo(3); i > 0; i--) {
            product.append(upTo(5) == 0 ? " / " : " * ").append(upTo(1) == 0 ? upTo(9999) : upTo(300));
        }
        return product.append(')').toString();
    }

    private String formula(int depth) {
        int kind = upTo(depth <= 0 ? 1 : 5);
        if (kind == 0 && upTo(9) == 0) {
            return product();
        }
        if (kind == 0) {
            return String.valueOf(upTo(3) == 0 ? upTo(9999) : upTo(30));
        }
        if (kind == 1) {
            return NAMES[upTo(6)];
        }
        if (kind == 2) {
            return "(" + formula(depth - 1) + ")";
        }
        String left = formula(depth - 1);
        return (upTo(19) == 0 ? "not " : "") + left + " " + SIGNS[upTo(SIGNS.length - 1)] + " " + formula(depth - 1);
    }

    private String house() {
        StringBuilder text = new StringBuilder();
        int rooms = upTo(9) == 0 ? upTo(6) : 1 + upTo(2);
        for (int r = 0; r < rooms; r++) {
            text.append("room r").append((char) ('a' + r)).append(' ').append(about(0, 400) & 1023).append(' ')
                .append(upTo(3) == 0 ? upTo(99) : upTo(20)).append(' ').append(upTo(40)).append(";");
        }
        int people = rooms == 0 ? 0 : upTo(9) == 0 ? upTo(6) : 1 + upTo(2);
        for (int p = 0; p < people; p++) {
            text.append("person p").append((char) ('a' + p)).append(" r").append((char) ('a' + upTo(rooms - 1)))
                .append(' ').append(upTo(4) == 0 ? upTo(40) : 15 + upTo(10)).append(' ').append(upTo(5)).append(' ')
                .append(upTo(2) == 0 ? upTo(23) : upTo(5)).append(";\n");
        }
        for (int s = upTo(3); s > 0 && rooms > 0; s--) {
            text.append("sun r").append((char) ('a' + upTo(rooms - 1))).append(' ').append(upTo(9)).append(' ')
                .append(upTo(99)).append("; ");
        }
        for (int o = upTo(4); o > 0; o--) {
            text.append("out ").append(upTo(3) == 0 ? upTo(400) : upTo(150)).append(";");
        }
        if (rooms > 0 && upTo(1) == 0) {
            text.append("knob ").append(5 + upTo(25)).append(" r").append((char) ('a' + upTo(rooms - 1))).append(';');
        }
        if (upTo(1) == 0) {
            text.append("price ").append(upTo(99)).append(";");
        }
        for (String law : new String[] {"lose", "turn", "cross"}) {
            if (upTo(2) == 0) {
                text.append("law ").append(law).append(' ').append(formula(3)).append(';');
            }
        }
        return text.toString();
    }

    private String rubbish() {
        StringBuilder text = new StringBuilder(upTo(1) == 0 ? "room h 1 1 1;" : "");
        text.append(upTo(1) == 0 ? "law lose " : "");
        for (int i = upTo(12); i >= 0; i--) {
            text.append(WORDS[upTo(WORDS.length - 1)]).append(upTo(3) == 0 ? "" : " ");
        }
        return text.toString();
    }

    private String broken(String text) {
        int at = upTo(text.length());
        if (upTo(3) == 0) {
            return text.substring(0, at);
        }
        int to = Math.min(text.length(), at + upTo(4));
        return text.substring(0, at) + (upTo(1) == 0 ? WORDS[upTo(WORDS.length - 1)] : "") + text.substring(to);
    }

    private void tellBoth() {
        int kind = upTo(9);
        String text = kind == 0 ? rubbish() : kind < 3 ? broken(house()) : house();
        int[] n = Hall.numbers(Hall.bytes(text));
        for (int i = 0; i < n.length; i += 5) {
            same("feed", hall.feed(n[i], n[i + 1], n[i + 2], n[i + 3], n[i + 4]),
                model.feed(n[i], n[i + 1], n[i + 2], n[i + 3], n[i + 4]));
        }
        int length = upTo(29) == 0 ? about(0, 700) : text.length();
        said.append("  tells ").append(text.replace("\n", "\\n")).append('\n');
        same("text(" + length + ")", hall.text(length), model.text(length));
        for (int what = -1; what < 3; what++) {
            same("fault(" + what + ")", hall.fault(what), model.fault(what));
        }
    }

    private boolean same(String call, long got, long want) {
        said.append("    ").append(call).append(" = ").append(want).append('\n');
        Hall.due(call, got, want);
        if (got != want) {
            System.out.println(said);
            Hall.end();
        }
        return got == want;
    }

    private void same(String call, boolean got, boolean want) {
        same(call, got ? 1 : 0, want ? 1 : 0);
    }

    private void look() {
        for (int what = -1; what < 16; what++) {
            same("count(" + what + ")", hall.count(what), model.count(what));
        }
        for (int room = -1; room < 6; room++) {
            for (int what = -1; what < 5; what++) {
                same("room(" + room + "," + what + ")", hall.room(room, what), model.room(room, what));
            }
        }
        for (int person = -1; person < 6; person++) {
            for (int what = -1; what < 8; what++) {
                same("person(" + person + "," + what + ")", Hall.person(hall, person, what),
                    model.person(person, what));
            }
            same("turnsOf(" + person + ",0)", hall.turnsOf(person, 0), model.turnsOf(person, 0));
        }
        for (int what = -1; what < 4; what++) {
            for (int which = -1; which < 5; which++) {
                same("law(" + what + "," + which + ")", hall.law(what, which), model.law(what, which));
            }
        }
        for (int hour = -1; hour < 25; hour++) {
            same("learn(" + hour + ")", hall.learn(hour), model.learn(hour));
        }
        same("crossest()", hall.crossest(), model.crossest());
        same("spread()", hall.spread(), model.spread());
    }

    private int aRoom() {
        return about(0, upTo(3) == 0 ? 4 : 1);
    }

    private void act() {
        switch (upTo(9)) {
            case 0, 1 -> {
                int d = about(5, 30);
                same("set(" + d + ")", hall.set(d), model.set(d));
            }
            case 2 -> {
                int r = aRoom();
                same("hang(" + r + ")", hall.hang(r), model.hang(r));
            }
            case 3 -> {
                boolean is = upTo(1) == 0;
                same("candle(" + is + ")", hall.candle(is), model.candle(is));
            }
            case 4 -> {
                int p = aRoom();
                boolean is = upTo(1) == 0;
                same("jumper(" + p + "," + is + ")", hall.jumper(p, is), model.jumper(p, is));
            }
            case 5 -> {
                int n = upTo(1) == 0 ? upTo(3) : about(0, 99);
                same("go(" + n + ")", hall.go(n), model.go(n));
            }
            case 6, 7 -> same("undo()", hall.undo(), model.undo());
            case 8 -> {
                if (upTo(1) == 0) {
                    same("keep()", hall.keep(), model.keep());
                } else {
                    same("back()", hall.back(), model.back());
                }
            }
            default -> note();
        }
    }

    private void note() {
        int hours = upTo(2) == 0 ? about(1, 60) : 1 + upTo(10);
        int degrees = about(5, 30);
        boolean is = upTo(1) == 0;
        switch (upTo(3)) {
            case 0, 1 -> same("wear(" + hours + "," + degrees + "," + is + ")", hall.wear(hours, degrees, is),
                model.wear(hours, degrees, is));
            case 2 -> {
                int worn = about(0, Math.max(0, model.count(12)));
                same("strike(" + worn + ")", hall.strike(worn), model.strike(worn));
            }
            default -> {
                int n = about(-1, Math.max(0, model.count(12)));
                same("known(" + n + ")", hall.known(n), model.known(n));
            }
        }
        for (int person = -1; person < 3; person++) {
            same("lately(" + person + ")", hall.lately(person), model.lately(person));
        }
    }

    private void askOne() {
        int r = aRoom();
        int q = aRoom();
        int tenths = upTo(1) == 0 ? about(0, 600) : 150 + upTo(100);
        int d = about(5, 30);
        int e = about(5, 30);
        int n = upTo(2) == 0 ? about(0, 99) : upTo(30);
        int far = about(0, 200);
        int what = about(0, 3);
        switch (upTo(12)) {
            case 0 -> same("ahead(" + far + "," + what + "," + r + ")", hall.ahead(far, what, r),
                model.ahead(far, what, r));
            case 1 -> same("soon(" + r + "," + tenths + "," + d + ")", hall.soon(r, tenths, d),
                model.soon(r, tenths, d));
            case 2 -> same("quicker(" + r + "," + tenths + "," + d + "," + e + ")", hall.quicker(r, tenths, d, e),
                model.quicker(r, tenths, d, e));
            case 3 -> same("best(" + n + "," + what + ")", hall.best(n, what), model.best(n, what));
            case 4 -> {
                int bound = upTo(1) == 0 ? about(0, 99999) : upTo(n > 0 && n < 100 ? n * 20 : 99);
                same("cheap(" + n + "," + bound + ")", hall.cheap(n, bound), model.cheap(n, bound));
            }
            case 5 -> same("hears(" + n + ")", hall.hears(n), model.hears(n));
            case 6 -> same("onAgain(" + r + "," + tenths + "," + n + ")", hall.onAgain(r, tenths, n),
                model.onAgain(r, tenths, n));
            case 7 -> {
                int days = about(1, 7);
                same("night(" + days + ")", hall.night(days), model.night(days));
            }
            case 8 -> same("swings(" + far + ")", hall.swings(far), model.swings(far));
            case 9 -> same("degree(" + n + ")", hall.degree(n), model.degree(n));
            case 10 -> same("strip(" + r + "," + n + ")", hall.strip(r, n), model.strip(r, n));
            case 11 -> same("rests(" + r + "," + q + ")", hall.rests(r, q), model.rests(r, q));
            default -> same("givesIn(" + r + "," + q + ")", hall.givesIn(r, q), model.givesIn(r, q));
        }
    }

    private void askMore() {
        int r = aRoom();
        int q = aRoom();
        int n = upTo(2) == 0 ? about(0, 99) : upTo(30);
        int far = about(0, 200);
        int k = about(0, 9);
        switch (upTo(7)) {
            case 0 -> same("rest(" + r + "," + q + "," + k + ")", hall.rest(r, q, k), model.rest(r, q, k));
            case 1 -> same("turnsOf(" + r + "," + far + ")", hall.turnsOf(r, far), model.turnsOf(r, far));
            case 2 -> {
                int what = about(0, 1);
                same("apart(" + far + "," + what + ")", hall.apart(far, what), model.apart(far, what));
            }
            case 3 -> same("feels(" + r + "," + n + ")", hall.feels(r, n), model.feels(r, n));
            case 4, 5 -> {
                int seed = upTo(9) == 0 ? random.nextInt() : random.nextInt() & Integer.MAX_VALUE;
                int tenths = upTo(1) == 0 ? about(0, 600)
                    : model.ahead(n, 0, r) < 0 ? 0 : Math.min(600, Math.max(0, model.ahead(n, 0, r) - 10 + upTo(20)));
                same("chance(" + seed + "," + n + "," + r + "," + tenths + ")", hall.chance(seed, n, r, tenths),
                    model.chance(seed, n, r, tenths));
            }
            default -> {
                int what = about(0, 4);
                int i = upTo(3) == 0 || what == 2 ? q : 0;
                same("tried(" + what + "," + i + "," + n + ")", hall.tried(what, i, n), model.tried(what, i, n));
            }
        }
        int hour = about(0, 9999);
        same("out(" + hour + ")", hall.out(hour), model.out(hour));
        int what = about(0, 1);
        int letters = Hall.letters((upTo(1) == 0 ? "r" : "p") + (char) ('a' + upTo(3)));
        same("named(" + what + "," + letters + ")", hall.named(what, letters), model.named(what, letters));
    }

    /** Near the last HOUR, where some goes are refused. */
    private void march() {
        int n = 90 + upTo(9);
        int most = 9900 / n;
        for (int i = upTo(1); i < most; i++) {
            same("go(" + n + ")", hall.go(n), model.go(n));
        }
    }

    private void run() {
        tellBoth();
        if (upTo(39) == 0) {
            march();
        }
        for (int i = 0; i < 60; i++) {
            int kind = upTo(9);
            if (kind == 0 && upTo(2) == 0) {
                tellBoth();
            } else if (kind < 5) {
                act();
            } else if (kind < 8) {
                askOne();
            } else {
                askMore();
            }
            if (upTo(9) == 0) {
                look();
            }
        }
    }

    public static void main(String[] args) {
        int runs = args.length > 0 ? Integer.parseInt(args[0]) : 600;
        long first = args.length > 1 ? Long.parseLong(args[1]) : 1;
        for (long seed = first; seed < first + runs; seed++) {
            new ModelTest(seed).run();
        }
        Hall.end();
    }
}
