import java.math.BigInteger;
import java.util.ArrayList;
import java.util.HashMap;
import java.util.HashSet;
import java.util.List;
import java.util.Map;
import java.util.Set;
import java.util.TreeMap;

/**
 * The document once more, written another way and without regard to memory: the whole past is kept,
 * laws are trees of big numbers, answers are looked up. ModelTest compares it with KnobHall.
 */
final class Model {
    record Room(String name, int warm, int leak, int heat) { }

    record Person(String name, int room, int wants, int late, int passes) { }

    record Sun(int room, int hour, int tenths) { }

    record Token(int place, String kind, String text) { }

    record Turn(int hour, int person, int from, int to) { }

    record Wear(int hours, int degrees, boolean atLeast, int strikes) { }

    static final class Fault extends RuntimeException {
        private static final long serialVersionUID = 1L;
        final int which;
        final int place;

        Fault(int which, int place) {
            this.which = which;
            this.place = place;
        }
    }

    static final class Mistake extends RuntimeException {
        private static final long serialVersionUID = 1L;
    }

    interface Node {
        BigInteger of(Map<String, Integer> names);
    }

    static final class Told {
        final List<Room> rooms = new ArrayList<>();
        final List<Person> people = new ArrayList<>();
        final List<Sun> suns = new ArrayList<>();
        final List<Integer> outs = new ArrayList<>();
        final Map<String, Node> laws = new HashMap<>();
        Integer set;
        Integer hears;
        Integer price;
        int knots;
        int lines;
    }

    /** Reads by the grammar's own rules, a method each. */
    static final class Parser {
        private static final Set<String> LANGUAGE = Set.of("room", "person", "sun", "out", "knob", "price", "law",
            "lose", "turn", "cross", "or", "and", "not", "warm", "outer", "felt", "wish", "set", "leak", "hour");
        private static final Set<String> NAMES = Set.of("warm", "outer", "felt", "wish", "set", "leak", "hour");
        private static final BigInteger LIMIT = BigInteger.TEN.pow(12);
        private final List<Token> tokens = new ArrayList<>();
        private final Told told = new Told();
        private int at;
        private int open;

        Parser(byte[] bytes) {
            String text = new String(bytes, java.nio.charset.StandardCharsets.ISO_8859_1);
            java.util.regex.Matcher m = java.util.regex.Pattern
                .compile("(?<blank>[ \\n]+)|(?<word>[a-z]+)|(?<number>[0-9]+)|(?<sign><=|<>|>=|[-;()<>=+*/])|(?<none>.)",
                    java.util.regex.Pattern.DOTALL)
                .matcher(text);
            while (m.find()) {
                for (String kind : List.of("word", "number", "sign", "none")) {
                    if (m.group(kind) != null) {
                        tokens.add(new Token(m.start(), kind, m.group()));
                    }
                }
            }
            tokens.add(new Token(bytes.length, "end", ""));
        }

        private Token peek() {
            return tokens.get(at);
        }

        private Fault wrong(int which) {
            return new Fault(which, peek().place);
        }

        private boolean takes(String... texts) {
            for (String text : texts) {
                if (peek().text.equals(text)) {
                    at++;
                    return true;
                }
            }
            return false;
        }

        private String last() {
            return tokens.get(at - 1).text;
        }

        private int number(int least, int most) {
            if (!peek().kind.equals("number")) {
                throw wrong(1);
            }
            BigInteger value = new BigInteger(peek().text);
            if (value.compareTo(BigInteger.valueOf(least)) < 0 || value.compareTo(BigInteger.valueOf(most)) > 0) {
                throw wrong(2);
            }
            at++;
            return value.intValue();
        }

        private String word() {
            Token token = peek();
            if (!token.kind.equals("word") || token.text.length() > 6 || LANGUAGE.contains(token.text)) {
                throw wrong(1);
            }
            return token.text;
        }

        private int room() {
            String name = word();
            for (int i = 0; i < told.rooms.size(); i++) {
                if (told.rooms.get(i).name.equals(name)) {
                    at++;
                    return i;
                }
            }
            throw wrong(4);
        }

        Told parse() {
            while (!peek().kind.equals("end")) {
                line();
                if (!takes(";")) {
                    throw wrong(1);
                }
                told.lines++;
            }
            return told;
        }

        private void line() {
            switch (peek().text) {
                case "room" -> {
                    most(told.rooms.size(), 5);
                    String name = word();
                    if (told.rooms.stream().anyMatch(r -> r.name.equals(name))) {
                        throw wrong(3);
                    }
                    at++;
                    told.rooms.add(new Room(name, number(0, 400), number(0, 99), number(0, 99)));
                }
                case "person" -> {
                    most(told.people.size(), 5);
                    String name = word();
                    if (told.people.stream().anyMatch(p -> p.name.equals(name))) {
                        throw wrong(3);
                    }
                    at++;
                    told.people.add(new Person(name, room(), number(0, 40), number(0, 5), number(0, 23)));
                }
                case "sun" -> {
                    most(told.suns.size(), 4);
                    told.suns.add(new Sun(room(), number(0, 23), number(0, 99)));
                }
                case "out" -> {
                    most(told.outs.size(), 8);
                    told.outs.add(number(0, 400));
                }
                case "knob" -> {
                    once(told.set == null);
                    told.set = number(5, 30);
                    told.hears = room();
                }
                case "price" -> {
                    once(told.price == null);
                    told.price = number(0, 99);
                }
                case "law" -> {
                    at++;
                    String law = peek().text;
                    if (!Set.of("lose", "turn", "cross").contains(law)) {
                        throw wrong(1);
                    }
                    once(!told.laws.containsKey(law));
                    told.laws.put(law, or());
                }
                default -> throw wrong(1);
            }
        }

        private void most(int size, int most) {
            if (size == most) {
                throw wrong(2);
            }
            at++;
        }

        private void once(boolean is) {
            if (!is) {
                throw wrong(3);
            }
            at++;
        }

        private void knot() {
            if (told.knots == 64) {
                throw wrong(2);
            }
            told.knots++;
        }

        private static BigInteger bit(boolean is) {
            return is ? BigInteger.ONE : BigInteger.ZERO;
        }

        private static boolean yes(BigInteger value) {
            return value.signum() != 0;
        }

        private Node or() {
            Node left = and();
            while (peek().text.equals("or")) {
                knot();
                at++;
                left = join("or", left, and());
            }
            return left;
        }

        private Node and() {
            Node left = not();
            while (peek().text.equals("and")) {
                knot();
                at++;
                left = join("and", left, not());
            }
            return left;
        }

        private Node not() {
            if (peek().text.equals("not")) {
                knot();
                at++;
                Node part = not();
                return names -> bit(!yes(part.of(names)));
            }
            Node left = sum();
            String sign = peek().text;
            if (Set.of("<", "<=", "=", "<>", ">=", ">").contains(sign)) {
                knot();
                at++;
                return join(sign, left, sum());
            }
            return left;
        }

        private Node sum() {
            Node left = product();
            while (Set.of("+", "-").contains(peek().text)) {
                knot();
                at++;
                left = join(last(), left, product());
            }
            return left;
        }

        private Node product() {
            Node left = part();
            while (Set.of("*", "/").contains(peek().text)) {
                knot();
                at++;
                left = join(last(), left, part());
            }
            return left;
        }

        private Node part() {
            Token token = peek();
            if (token.text.equals("(")) {
                if (open == 8) {
                    throw wrong(2);
                }
                open++;
                at++;
                Node inner = or();
                if (!takes(")")) {
                    throw wrong(1);
                }
                open--;
                return inner;
            }
            if (NAMES.contains(token.text)) {
                knot();
                at++;
                return names -> BigInteger.valueOf(names.get(token.text));
            }
            if (!token.kind.equals("number")) {
                throw wrong(1);
            }
            knot();
            BigInteger value = BigInteger.valueOf(number(0, 9999));
            return names -> value;
        }

        private static Node join(String sign, Node left, Node right) {
            return names -> {
                BigInteger a = left.of(names);
                BigInteger b = right.of(names);
                BigInteger value = switch (sign) {
                    case "+" -> a.add(b);
                    case "-" -> a.subtract(b);
                    case "*" -> a.multiply(b);
                    case "/" -> {
                        if (b.signum() == 0) {
                            throw new Mistake();
                        }
                        yield a.divide(b);
                    }
                    case "<" -> bit(a.compareTo(b) < 0);
                    case "<=" -> bit(a.compareTo(b) <= 0);
                    case "=" -> bit(a.equals(b));
                    case "<>" -> bit(!a.equals(b));
                    case ">=" -> bit(a.compareTo(b) >= 0);
                    case ">" -> bit(a.compareTo(b) > 0);
                    case "and" -> bit(yes(a) && yes(b));
                    default -> bit(yes(a) || yes(b));
                };
                if (value.abs().compareTo(LIMIT) > 0) {
                    throw new Mistake();
                }
                return value;
            };
        }
    }

    /** In what a run differs; null or empty: in nothing. */
    static final class Otherwise {
        boolean still;
        boolean dark;
        boolean tight;
        boolean prompt;
        int gone = -1;
        int halved = -1;
        Map<Integer, Integer> late = Map.of();
        long[] seed;
    }

    static final class World implements Cloneable {
        Told told;
        int set;
        int hears;
        boolean candle;
        Set<Integer> jumpers = new HashSet<>();
        /** The first one as told, then as behind each hour. */
        List<int[]> warms = new ArrayList<>();
        List<int[]> crosses = new ArrayList<>();
        List<Turn> turns = new ArrayList<>();
        int fires;

        World(Told told) {
            this.told = told;
            set = told.set == null ? 20 : told.set;
            hears = told.hears == null ? 0 : told.hears;
            warms.add(told.rooms.stream().mapToInt(Room::warm).toArray());
        }

        World copy() {
            World copy = new World(told);
            copy.set = set;
            copy.hears = hears;
            copy.candle = candle;
            copy.jumpers = new HashSet<>(jumpers);
            copy.warms = new ArrayList<>(warms);
            copy.crosses = new ArrayList<>(crosses);
            copy.turns = new ArrayList<>(turns);
            copy.fires = fires;
            return copy;
        }

        int hour() {
            return warms.size() - 1;
        }

        int[] warm() {
            return warms.get(warms.size() - 1);
        }

        int paid() {
            return fires * (told.price == null ? 3 : told.price);
        }

        int cross(int person) {
            return crosses.stream().mapToInt(c -> c[person]).sum();
        }

        int cross() {
            return crosses.stream().flatMapToInt(java.util.Arrays::stream).sum();
        }

        boolean on() {
            return !told.rooms.isEmpty() && warm()[hears] + (candle ? 50 : 0) < 10 * set;
        }

        int felt(int person, Otherwise other) {
            Person who = told.people.get(person);
            int late = other.prompt ? 0 : other.late.getOrDefault(person, who.late);
            return warms.get(Math.max(0, warms.size() - 1 - late))[who.room] + (jumpers.contains(person) ? 20 : 0);
        }

        /** The law's value, or null with an error or without such a law. */
        Long law(String law, int room, int person, int hour, int outer, int leak, Otherwise other) {
            Node node = told.laws.get(law);
            if (node == null) {
                return null;
            }
            Map<String, Integer> names = new HashMap<>();
            names.put("warm", warm()[room]);
            names.put("outer", outer);
            names.put("felt", person < 0 ? 0 : felt(person, other));
            names.put("wish", person < 0 ? 0 : 10 * told.people.get(person).wants);
            names.put("set", 10 * set);
            names.put("leak", leak);
            names.put("hour", hour % 24);
            try {
                return node.of(names).longValueExact();
            } catch (Mistake e) {
                return null;
            }
        }

        static long cut(long value, long least, long most) {
            return Math.max(least, Math.min(most, value));
        }

        void hour(Otherwise other) {
            int t = hour();
            int outer = out(told, t);
            if (other.seed != null) {
                other.seed[0] = (other.seed[0] * 1103515245L + 12345L) % (1L << 31);
                outer = (int) cut(outer + other.seed[0] / 65536 % 101 - 50, 0, 400);
            }
            boolean on = on();
            fires += on ? 1 : 0;
            int[] then = new int[told.rooms.size()];
            for (int r = 0; r < then.length; r++) {
                Room room = told.rooms.get(r);
                int leak = other.halved == r ? room.leak / 2 : room.leak;
                long value = warm()[r] + (on ? room.heat : 0);
                if (!other.dark) {
                    value += sun(told, r, t);
                }
                if (!other.tight) {
                    Long loss = law("lose", r, -1, t, outer, leak, other);
                    value -= cut(loss == null ? (warm()[r] - outer) * leak / 100 : loss, -400, 400);
                }
                then[r] = (int) cut(value, 0, 600);
            }
            warms.add(then);
            people(t, outer, other);
        }

        private void people(int t, int outer, Otherwise other) {
            for (int p = 0; p < told.people.size() && !other.still; p++) {
                Person who = told.people.get(p);
                if (who.passes == t % 24 && p != other.gone) {
                    int felt = felt(p, other);
                    Long law = law("turn", who.room, p, t, outer, told.rooms.get(who.room).leak, other);
                    long by = law != null ? law : felt < 10 * who.wants - 5 ? 1 : felt > 10 * who.wants + 5 ? -1 : 0;
                    int to = (int) cut(set + cut(by, -9, 9), 5, 30);
                    if (to != set) {
                        turns.add(new Turn(t, p, set, to));
                    }
                    set = to;
                }
            }
            int[] cross = new int[told.people.size()];
            for (int p = 0; p < cross.length; p++) {
                Person who = told.people.get(p);
                if (p != other.gone) {
                    Long law = law("cross", who.room, p, t, outer, told.rooms.get(who.room).leak, other);
                    cross[p] = (int) cut(law != null ? law : Math.abs(felt(p, other) - 10 * who.wants) / 10, 0, 999);
                }
            }
            crosses.add(cross);
        }
    }

    static int out(Told told, int hour) {
        return told.outs.isEmpty() ? 100 : told.outs.get(hour % told.outs.size());
    }

    static int sun(Told told, int room, int hour) {
        return told.suns.stream().filter(s -> s.room == room && s.hour == hour % 24).mapToInt(Sun::tenths).sum();
    }

    private final java.io.ByteArrayOutputStream tape = new java.io.ByteArrayOutputStream();
    private World now = new World(new Told());
    private World image;
    private final List<Wear> wears = new ArrayList<>();
    private int known = -1;
    private final java.util.ArrayDeque<Runnable> undos = new java.util.ArrayDeque<>();
    private int fault;
    private int place = -1;

    int feed(int... five) {
        if (tape.size() + 20 > 700) {
            return -1;
        }
        for (int number : five) {
            tape.writeBytes(java.nio.ByteBuffer.allocate(4).putInt(number).array());
        }
        return tape.size();
    }

    int text(int n) {
        if (n < 0 || n > tape.size()) {
            return -2;
        }
        byte[] bytes = java.util.Arrays.copyOf(tape.toByteArray(), n);
        tape.reset();
        try {
            Told told = new Parser(bytes).parse();
            now = new World(told);
            image = null;
            wears.clear();
            known = -1;
            undos.clear();
            fault = 0;
            place = -1;
            return told.lines;
        } catch (Fault f) {
            fault = f.which;
            place = f.place;
            return -1;
        }
    }

    int fault(int what) {
        return what == 0 ? fault : what == 1 ? place : -1;
    }

    int named(int what, int letters) {
        List<String> names = what == 0 ? now.told.rooms.stream().map(Room::name).toList()
            : what == 1 ? now.told.people.stream().map(Person::name).toList() : List.of();
        for (int i = 0; i < names.size(); i++) {
            if (Hall.letters(names.get(i)) == letters) {
                return i;
            }
        }
        return -1;
    }

    private boolean noRoom(int room) {
        return room < 0 || room >= now.told.rooms.size();
    }

    private boolean noPerson(int person) {
        return person < 0 || person >= now.told.people.size();
    }

    private static boolean beyond(int value, int least, int most) {
        return value < least || value > most;
    }

    /** -1000 for no such person, -1001 for no such what. */
    int person(int person, int what) {
        if (noPerson(person)) {
            return -1000;
        }
        Person who = now.told.people.get(person);
        return switch (what) {
            case 0 -> who.room;
            case 1 -> who.wants;
            case 2 -> who.late;
            case 3 -> who.passes;
            case 4 -> now.felt(person, new Otherwise());
            case 5 -> now.cross(person);
            case 6 -> now.jumpers.contains(person) ? 1 : 0;
            default -> -1001;
        };
    }

    int room(int room, int what) {
        if (noRoom(room) || beyond(what, 0, 3)) {
            return -1;
        }
        Room which = now.told.rooms.get(room);
        return List.of(now.warm()[room], which.leak, which.heat, sun(now.told, room, now.hour())).get(what);
    }

    int out(int hour) {
        return beyond(hour, 0, 9999) ? -1 : out(now.told, hour);
    }

    long law(int what, int which) {
        if (beyond(what, 0, 2) || (what == 0 ? noRoom(which) : noPerson(which))) {
            return Long.MIN_VALUE;
        }
        int room = what == 0 ? which : now.told.people.get(which).room;
        Long value = now.law(List.of("lose", "turn", "cross").get(what), room, what == 0 ? -1 : which, now.hour(),
            out(now.told, now.hour()), now.told.rooms.get(room).leak, new Otherwise());
        return value == null ? Long.MIN_VALUE : value;
    }

    private boolean did(Runnable back) {
        undos.push(back);
        if (undos.size() > 20) {
            undos.removeLast();
        }
        return true;
    }

    boolean set(int degrees) {
        int was = now.set;
        if (beyond(degrees, 5, 30) || degrees == was) {
            return false;
        }
        now.set = degrees;
        return did(() -> now.set = was);
    }

    boolean hang(int room) {
        int was = now.hears;
        if (noRoom(room) || room == was) {
            return false;
        }
        now.hears = room;
        return did(() -> now.hears = was);
    }

    boolean candle(boolean is) {
        if (now.candle == is) {
            return false;
        }
        now.candle = is;
        return did(() -> now.candle = !is);
    }

    boolean jumper(int person, boolean is) {
        if (noPerson(person) || now.jumpers.contains(person) == is) {
            return false;
        }
        wool(person, is);
        return did(() -> wool(person, !is));
    }

    private void wool(int person, boolean is) {
        if (is) {
            now.jumpers.add(person);
        } else {
            now.jumpers.remove(person);
        }
    }

    int go(int n) {
        if (beyond(n, 0, 99) || beyond(now.hour() + n, 0, 9900)) {
            return -1;
        }
        for (int i = 0; i < n; i++) {
            now.hour(new Otherwise());
            undos.clear();
        }
        return now.hour();
    }

    private World run(int n, Otherwise other) {
        World world = now.copy();
        for (int i = 0; i < n; i++) {
            world.hour(other);
        }
        return world;
    }

    private World still(int n, int degrees) {
        World world = now.copy();
        world.set = degrees;
        Otherwise other = new Otherwise();
        other.still = true;
        for (int i = 0; i < n; i++) {
            world.hour(other);
        }
        return world;
    }

    int ahead(int n, int what, int room) {
        if (beyond(n, 0, 200) || beyond(what, 0, 3) || what == 0 && noRoom(room)) {
            return -1;
        }
        World then = run(n, new Otherwise());
        return switch (what) {
            case 0 -> then.warm()[room];
            case 1 -> then.paid() - now.paid();
            case 2 -> then.cross() - now.cross();
            default -> then.turns.size() - now.turns.size();
        };
    }

    int soon(int room, int tenths, int degrees) {
        if (noRoom(room) || beyond(tenths, 0, 600) || beyond(degrees, 5, 30)) {
            return -1;
        }
        World then = still(200, degrees);
        for (int h = 0; h <= 200; h++) {
            if (then.warms.get(now.hour() + h)[room] >= tenths) {
                return h;
            }
        }
        return -2;
    }

    int quicker(int room, int tenths, int degrees, int others) {
        int first = soon(room, tenths, degrees);
        int second = soon(room, tenths, others);
        if (first == -1 || second == -1) {
            return -1;
        }
        return (second == -2 ? 999 : second) < (first == -2 ? 999 : first) ? 1 : 0;
    }

    int best(int n, int what) {
        if (beyond(n, 1, 99) || beyond(what, 0, 1)) {
            return -1;
        }
        TreeMap<Integer, Integer> sets = new TreeMap<>();
        for (int s = 30; s >= 5; s--) {
            sets.put(still(n, s).cross() - now.cross(), s);
        }
        return what == 0 ? sets.firstEntry().getValue() : sets.firstKey();
    }

    int cheap(int n, int bound) {
        if (beyond(n, 1, 99) || beyond(bound, 0, 99999)) {
            return -1;
        }
        TreeMap<Integer, Integer> sets = new TreeMap<>();
        for (int s = 30; s >= 5; s--) {
            World then = still(n, s);
            if (then.cross() - now.cross() <= bound) {
                sets.put(then.paid(), s);
            }
        }
        return sets.isEmpty() ? -2 : sets.firstEntry().getValue();
    }

    int hears(int n) {
        if (beyond(n, 1, 99) || now.told.rooms.isEmpty()) {
            return -1;
        }
        int was = now.hears;
        TreeMap<Integer, Integer> rooms = new TreeMap<>();
        for (int r = now.told.rooms.size() - 1; r >= 0; r--) {
            now.hears = r;
            rooms.put(still(n, now.set).cross(), r);
        }
        now.hears = was;
        return rooms.firstEntry().getValue();
    }

    private World turnedEachHour(int n, java.util.function.IntUnaryOperator setAt) {
        World world = now.copy();
        Otherwise other = new Otherwise();
        other.still = true;
        for (int i = 0; i < n; i++) {
            world.set = setAt.applyAsInt(world.hour());
            world.hour(other);
        }
        return world;
    }

    int onAgain(int room, int tenths, int n) {
        if (noRoom(room) || beyond(tenths, 0, 600) || beyond(n, 0, 99)) {
            return -1;
        }
        int latest = -2;
        for (int h = 0; h <= n; h++) {
            int from = now.hour() + h;
            if (turnedEachHour(n, hour -> hour < from ? 5 : 30).warm()[room] >= tenths) {
                latest = h;
            }
        }
        return latest;
    }

    int night(int n) {
        if (beyond(n, 1, 7)) {
            return Integer.MIN_VALUE;
        }
        Set<Integer> night = Set.of(22, 23, 0, 1, 2, 3, 4, 5);
        int set = now.set;
        return turnedEachHour(24 * n, hour -> night.contains(hour % 24) ? 5 : set).paid() - still(24 * n, set).paid();
    }

    int swings(int n) {
        if (beyond(n, 1, 200)) {
            return -1;
        }
        List<Turn> turns = run(n, new Otherwise()).turns;
        int swings = 0;
        for (int i = now.turns.size() + 1; i < turns.size(); i++) {
            boolean up = turns.get(i).to > turns.get(i).from;
            boolean wasUp = turns.get(i - 1).to > turns.get(i - 1).from;
            swings += up != wasUp ? 1 : 0;
        }
        return swings;
    }

    int degree(int n) {
        if (beyond(n, 1, 99)) {
            return -1;
        }
        return now.set == 30 ? 0 : Math.max(0, still(n, now.set + 1).paid() - still(n, now.set).paid());
    }

    int learn(int hour) {
        if (beyond(hour, 0, 23)) {
            return -1;
        }
        var mean = now.turns.stream().filter(t -> t.hour % 24 == hour).mapToInt(Turn::to).average();
        return mean.isPresent() ? (int) mean.getAsDouble() : -2;
    }

    private List<Integer> restsOf(int one, int other) {
        int a = now.told.people.get(one).wants;
        int b = now.told.people.get(other).wants;
        int[] more = {0, 2, -2};
        List<Integer> rests = new ArrayList<>();
        for (int i = 0; i < 3; i++) {
            for (int j = 0; j < 3; j++) {
                boolean rest = true;
                for (int k = 0; k < 3; k++) {
                    rest &= lost(a, i, a + more[i] + b + more[j]) <= lost(a, k, a + more[k] + b + more[j]);
                    rest &= lost(b, j, a + more[i] + b + more[j]) <= lost(b, k, a + more[i] + b + more[k]);
                }
                if (rest) {
                    rests.add(10 * i + j);
                }
            }
        }
        return rests;
    }

    private static int lost(int wants, int how, int sum) {
        return Math.abs(10 * (int) World.cut(sum / 2, 5, 30) - 10 * wants) + (how == 0 ? 0 : 6);
    }

    int rests(int one, int other) {
        return noPerson(one) || noPerson(other) || one == other ? -1 : restsOf(one, other).size();
    }

    int rest(int one, int other, int k) {
        if (rests(one, other) == -1 || k < 0) {
            return -1;
        }
        return k < rests(one, other) ? restsOf(one, other).get(k) : -2;
    }

    int givesIn(int one, int other) {
        if (rests(one, other) == -1) {
            return -1;
        }
        int low = Math.min(one, other);
        int high = Math.max(one, other);
        return lostBy(low, high) <= lostBy(high, low) ? low : high;
    }

    private int lostBy(int person, int other) {
        int set = (int) World.cut(now.told.people.get(other).wants, 5, 30);
        return still(24, set).cross(person) - now.cross(person);
    }

    int crossest() {
        TreeMap<Integer, Integer> people = new TreeMap<>();
        for (int p = now.told.people.size() - 1; p >= 0; p--) {
            people.put(now.cross(p), p);
        }
        return people.isEmpty() ? -1 : people.lastEntry().getValue();
    }

    int turnsOf(int person, int n) {
        if (noPerson(person) || beyond(n, 0, 200)) {
            return -1;
        }
        int before = (int) now.turns.stream().filter(t -> t.person == person).count();
        int then = (int) run(n, new Otherwise()).turns.stream().filter(t -> t.person == person).count();
        return n == 0 ? before : then - before;
    }

    int strip(int room, int n) {
        if (noRoom(room) || beyond(n, 1, 99)) {
            return -1;
        }
        Otherwise other = new Otherwise();
        other.still = true;
        other.halved = room;
        return Math.max(0, still(n, now.set).paid() - run(n, other).paid());
    }

    private static int spread(int[] warm) {
        return warm.length == 0 ? 0
            : java.util.Arrays.stream(warm).max().getAsInt() - java.util.Arrays.stream(warm).min().getAsInt();
    }

    int spread() {
        return spread(now.warm());
    }

    int apart(int n, int what) {
        if (beyond(n, 0, 200) || beyond(what, 0, 1)) {
            return -1;
        }
        World then = run(n, new Otherwise());
        TreeMap<Integer, Integer> hours = new TreeMap<>();
        for (int h = n; h >= 0; h--) {
            hours.put(spread(then.warms.get(now.hour() + h)), h);
        }
        return what == 0 ? hours.lastEntry().getValue() : hours.lastKey();
    }

    int feels(int person, int n) {
        if (noPerson(person) || beyond(n, 1, 99)) {
            return -1;
        }
        for (int h = 0; h <= n; h++) {
            if (run(h, new Otherwise()).felt(person, new Otherwise()) >= 10 * now.told.people.get(person).wants) {
                return h;
            }
        }
        return -2;
    }

    int wear(int hours, int degrees, boolean atLeast) {
        if (beyond(hours, 1, 60) || beyond(degrees, 5, 30) || wears.size() == 24) {
            return -1;
        }
        wears.add(new Wear(hours, degrees, atLeast, -1));
        return wears.size() - 1;
    }

    int strike(int worn) {
        if (beyond(worn, 0, wears.size() - 1) || wears.size() == 24) {
            return -1;
        }
        wears.add(new Wear(0, 0, false, worn));
        return wears.size() - 1;
    }

    boolean known(int n) {
        if (beyond(n, -1, wears.size())) {
            return false;
        }
        known = n;
        return true;
    }

    private int knownBy() {
        return known == -1 ? wears.size() : known;
    }

    private boolean counts(int i) {
        for (int j = i + 1; j < knownBy(); j++) {
            if (wears.get(j).strikes == i && counts(j)) {
                return false;
            }
        }
        return true;
    }

    int lately(int person) {
        if (noPerson(person)) {
            return -1;
        }
        int bits = 0;
        for (int late = 0; late <= 5; late++) {
            Otherwise other = new Otherwise();
            other.late = Map.of(person, late);
            World world = new World(now.told);
            List<Integer> sets = new ArrayList<>();
            for (int h = 0; h <= 60; h++) {
                sets.add(world.set);
                world.hour(other);
            }
            boolean all = true;
            for (int i = 0; i < knownBy(); i++) {
                Wear wear = wears.get(i);
                if (wear.strikes == -1 && counts(i)) {
                    all &= sets.get(wear.hours) >= wear.degrees == wear.atLeast;
                }
            }
            bits |= all ? 1 << late : 0;
        }
        return bits;
    }

    int chance(int seed, int n, int room, int tenths) {
        if (seed < 0 || beyond(n, 1, 99) || noRoom(room) || beyond(tenths, 0, 600)) {
            return -1;
        }
        Otherwise other = new Otherwise();
        other.seed = new long[] {seed};
        int times = 0;
        for (int i = 0; i < 10; i++) {
            times += run(n, other).warm()[room] >= tenths ? 1 : 0;
        }
        return times;
    }

    int tried(int what, int i, int n) {
        if (beyond(what, 0, 4) || beyond(n, 0, 99) || (what == 2 ? noPerson(i) : i != 0)) {
            return -1;
        }
        Otherwise other = new Otherwise();
        switch (what) {
            case 0 -> other.still = true;
            case 1 -> other.dark = true;
            case 2 -> other.gone = i;
            case 3 -> other.prompt = true;
            default -> other.tight = true;
        }
        return run(n, other).cross() - now.cross();
    }

    int undo() {
        if (undos.isEmpty()) {
            return -1;
        }
        undos.pop().run();
        return undos.size();
    }

    int keep() {
        image = now.copy();
        return now.hour();
    }

    int back() {
        if (image == null) {
            return -1;
        }
        now = image.copy();
        undos.clear();
        return now.hour();
    }

    int count(int what) {
        Told told = now.told;
        return switch (what) {
            case 0 -> told.rooms.size();
            case 1 -> told.people.size();
            case 2 -> told.knots;
            case 3 -> now.hour();
            case 4 -> now.set;
            case 5 -> told.rooms.isEmpty() ? -1 : now.hears;
            case 6 -> now.candle ? 1 : 0;
            case 7 -> now.on() ? 1 : 0;
            case 8 -> now.paid();
            case 9 -> now.fires;
            case 10 -> now.turns.size();
            case 11 -> now.cross();
            case 12 -> wears.size();
            case 13 -> knownBy();
            case 14 -> undos.size();
            default -> -1;
        };
    }
}
