import java.util.NoSuchElementException;

/** A house, its stove and its people, told as a text, and what follows from it hour by hour. */
public final class KnobHall {
    public static final int NONE = -1;

    private static final int NOT_SO = -2;
    private static final int TAPE_BYTES = 700;
    private static final int MOST_ROOMS = 5;
    private static final int MOST_PEOPLE = 5;
    private static final int MOST_SUNS = 4;
    private static final int MOST_OUTS = 8;
    private static final int MOST_KNOTS = 64;
    private static final int MOST_BRACKETS = 8;
    private static final int MOST_WEAR = 24;
    private static final int MOST_UNDONE = 20;
    private static final int LETTERS = 6;
    private static final int LAWS = 3;
    private static final int LATEST = 5;
    private static final int DAY = 24;
    private static final int LOWEST = 5;
    private static final int HIGHEST = 30;
    private static final int HOTTEST = 600;
    private static final int LONGEST_WEAR = 60;
    private static final int FAR = 200;
    private static final int NEAR = 99;
    private static final int LAST_HOUR = 9900;
    private static final int LAST_OUT = 9999;

    private static final int LOSE = 0;
    private static final int TURN = 1;
    private static final int CROSS = 2;

    private static final long ERROR = Long.MIN_VALUE;
    private static final long GREATEST = 1000000000000L;

    private final byte[] tape;
    private int taped;
    private final Reader reader;
    private House told;
    private House spare;
    private final Course now;
    private final Course image;
    private boolean kept;
    private final Course trial;
    private final Log log;
    private final Past past;
    private int latestFault;
    private int latestPlace;

    public KnobHall() {
        tape = new byte[TAPE_BYTES];
        reader = new Reader(tape);
        told = new House();
        spare = new House();
        now = new Course(told);
        image = new Course(told);
        trial = new Course(told);
        log = new Log();
        past = new Past();
        latestPlace = NONE;
    }

    // ---- the tape and the text ----

    public int feed(int a, int b, int c, int d, int e) {
        if (taped + 20 > TAPE_BYTES) {
            return NONE;
        }
        tapeNumber(a);
        tapeNumber(b);
        tapeNumber(c);
        tapeNumber(d);
        tapeNumber(e);
        return taped;
    }

    private void tapeNumber(int number) {
        for (int shift = 24; shift >= 0; shift -= 8) {
            tape[taped] = (byte) (number >> shift);
            taped++;
        }
    }

    public int text(int n) {
        if (n < 0 || n > taped) {
            return NOT_SO;
        }
        taped = 0;
        reader.begin(n, spare);
        boolean good = true;
        for (int line = 0; line < n && good && reader.isMore(); line++) {
            good = reader.readLine();
        }
        latestFault = reader.fault;
        latestPlace = reader.place;
        if (!good) {
            return NONE;
        }
        takeSpare();
        return told.lines;
    }

    private void takeSpare() {
        House before = told;
        told = spare;
        spare = before;
        now.begin(told);
        kept = false;
        log.clear();
        past.size = 0;
    }

    public int fault(int what) {
        if (what == 0) {
            return latestFault;
        }
        return what == 1 ? latestPlace : NONE;
    }

    public int named(int what, int letters) {
        if (what == 0) {
            return placeOf(letters, told.rooms.names, told.rooms.size);
        }
        return what == 1 ? placeOf(letters, told.people.names, told.people.size) : NONE;
    }

    private static int placeOf(int letters, int[] names, int size) {
        for (int at = 0; at < size; at++) {
            if (names[at] == letters) {
                return at;
            }
        }
        return NONE;
    }

    // ---- what is now ----

    private boolean isRoom(int room) {
        return room >= 0 && room < told.rooms.size;
    }

    private boolean isPerson(int person) {
        return person >= 0 && person < told.people.size;
    }

    private boolean areTwo(int one, int other) {
        return isPerson(one) && isPerson(other) && one != other;
    }

    private static boolean isWithin(int value, int least, int most) {
        return value >= least && value <= most;
    }

    private static int limited(long value, int least, int most) {
        if (value < least) {
            return least;
        }
        return value > most ? most : (int) value;
    }

    private static int distance(int one, int other) {
        return one > other ? one - other : other - one;
    }

    private static boolean isSet(int degrees) {
        return isWithin(degrees, LOWEST, HIGHEST);
    }

    public int person(int person, int what) throws IndexOutOfBoundsException, NoSuchElementException {
        if (!isPerson(person)) {
            throw new IndexOutOfBoundsException("no such person");
        }
        People people = told.people;
        switch (what) {
            case 0:
                return people.sits[person];
            case 1:
                return people.wants[person];
            case 2:
                return people.late[person];
            case 3:
                return people.passes[person];
            case 4:
                return now.feltBy(person);
            case 5:
                return now.cross[person];
            case 6:
                return now.jumpers[person] ? 1 : 0;
            default:
                throw new NoSuchElementException("no such what");
        }
    }

    public int room(int room, int what) {
        if (!isRoom(room)) {
            return NONE;
        }
        switch (what) {
            case 0:
                return now.warm[room];
            case 1:
                return told.rooms.leak[room];
            case 2:
                return told.rooms.heat[room];
            case 3:
                return told.sunOn(room, now.hour % DAY);
            default:
                return NONE;
        }
    }

    public int out(int hour) {
        return isWithin(hour, 0, LAST_OUT) ? told.outAt(hour) : NONE;
    }

    public long law(int what, int which) {
        now.outside = told.outAt(now.hour);
        if (what == LOSE && isRoom(which)) {
            return now.roomLaw(which, told.rooms.leak[which]);
        }
        if ((what == TURN || what == CROSS) && isPerson(which)) {
            return now.personLaw(what, which, now.feltBy(which));
        }
        return ERROR;
    }

    public int crossest() {
        int crossest = NONE;
        for (int person = 0; person < told.people.size; person++) {
            if (crossest == NONE || now.cross[person] > now.cross[crossest]) {
                crossest = person;
            }
        }
        return crossest;
    }

    public int spread() {
        return now.spreadNow();
    }

    public int count(int what) {
        switch (what) {
            case 0:
                return told.rooms.size;
            case 1:
                return told.people.size;
            case 2:
                return told.laws.knots;
            case 3:
                return now.hour;
            case 4:
                return now.set;
            case 5:
                return told.rooms.size == 0 ? NONE : now.hears;
            case 6:
                return now.candle ? 1 : 0;
            case 7:
                return now.isOn() ? 1 : 0;
            case 8:
                return now.paid;
            default:
                return countMore(what);
        }
    }

    private int countMore(int what) {
        switch (what) {
            case 9:
                return now.fire;
            case 10:
                return now.turns;
            case 11:
                return now.crossOfAll();
            case 12:
                return log.size;
            case 13:
                return log.knownBy();
            case 14:
                return past.size;
            default:
                return NONE;
        }
    }

    // ---- what is done ----

    public boolean set(int degrees) {
        if (!isSet(degrees) || degrees == now.set) {
            return false;
        }
        past.note(Past.KNOB, 0, now.set);
        now.set = degrees;
        return true;
    }

    public boolean hang(int room) {
        if (!isRoom(room) || room == now.hears) {
            return false;
        }
        past.note(Past.PLACE, 0, now.hears);
        now.hears = room;
        return true;
    }

    public boolean candle(boolean is) {
        if (is == now.candle) {
            return false;
        }
        past.note(Past.LIGHT, 0, now.candle ? 1 : 0);
        now.candle = is;
        return true;
    }

    public boolean jumper(int person, boolean is) {
        if (!isPerson(person) || is == now.jumpers[person]) {
            return false;
        }
        past.note(Past.WOOL, person, now.jumpers[person] ? 1 : 0);
        now.jumpers[person] = is;
        return true;
    }

    public int go(int n) {
        if (!isWithin(n, 0, NEAR) || now.hour + n > LAST_HOUR) {
            return NONE;
        }
        now.run(n);
        if (n > 0) {
            past.size = 0;
        }
        return now.hour;
    }

    public int undo() {
        if (past.size == 0) {
            return NONE;
        }
        past.takeBack(now);
        return past.size;
    }

    public int keep() {
        image.copy(now);
        kept = true;
        return now.hour;
    }

    public int back() {
        if (!kept) {
            return NONE;
        }
        now.copy(image);
        past.size = 0;
        return now.hour;
    }

    // ---- what comes, as it goes ----

    /** From now on, with all that is counted from 0 on. */
    private void tryAsItGoes() {
        trial.copy(now);
        trial.forget();
        trial.twist.clear();
    }

    public int ahead(int n, int what, int room) {
        if (!isWithin(n, 0, FAR) || !isWithin(what, 0, 3) || what == 0 && !isRoom(room)) {
            return NONE;
        }
        tryAsItGoes();
        trial.run(n);
        switch (what) {
            case 0:
                return trial.warm[room];
            case 1:
                return trial.paid;
            case 2:
                return trial.crossOfAll();
            default:
                return trial.turns;
        }
    }

    public int swings(int n) {
        if (!isWithin(n, 1, FAR)) {
            return NONE;
        }
        tryAsItGoes();
        trial.run(n);
        return trial.swung;
    }

    public int learn(int hour) {
        if (!isWithin(hour, 0, DAY - 1)) {
            return NONE;
        }
        int times = now.learnTimes[hour];
        return times == 0 ? NOT_SO : now.learnSum[hour] / times;
    }

    public int turnsOf(int person, int n) {
        if (!isPerson(person) || !isWithin(n, 0, FAR)) {
            return NONE;
        }
        if (n == 0) {
            return now.turned[person];
        }
        tryAsItGoes();
        trial.run(n);
        return trial.turned[person];
    }

    public int apart(int n, int what) {
        if (!isWithin(n, 0, FAR) || !isWithin(what, 0, 1)) {
            return NONE;
        }
        tryAsItGoes();
        int farthest = trial.spreadNow();
        int when = 0;
        for (int hours = 1; hours <= n; hours++) {
            trial.run(1);
            int far = trial.spreadNow();
            if (far > farthest) {
                farthest = far;
                when = hours;
            }
        }
        return what == 0 ? when : farthest;
    }

    public int feels(int person, int n) {
        if (!isPerson(person) || !isWithin(n, 1, NEAR)) {
            return NONE;
        }
        int wish = 10 * told.people.wants[person];
        tryAsItGoes();
        for (int hours = 0; hours < n; hours++) {
            if (trial.feltBy(person) >= wish) {
                return hours;
            }
            trial.run(1);
        }
        return trial.feltBy(person) >= wish ? n : NOT_SO;
    }

    public int chance(int seed, int n, int room, int tenths) {
        if (seed < 0 || !isWithin(n, 1, NEAR) || !isRoom(room) || !isWithin(tenths, 0, HOTTEST)) {
            return NONE;
        }
        tryAsItGoes();
        trial.twist.byChance = true;
        trial.twist.seed = seed;
        int times = 0;
        for (int draw = 0; draw < 10; draw++) {
            trial.copy(now);
            trial.run(n);
            if (trial.warm[room] >= tenths) {
                times++;
            }
        }
        return times;
    }

    public int tried(int what, int i, int n) {
        if (!isWithin(what, 0, 4) || !isWithin(n, 0, NEAR)) {
            return NONE;
        }
        if (what == 2 ? !isPerson(i) : i != 0) {
            return NONE;
        }
        tryAsItGoes();
        Twist twist = trial.twist;
        twist.nobodyTurns = what == 0;
        twist.noSun = what == 1;
        twist.absent = what == 2 ? i : NONE;
        twist.nobodyLate = what == 3;
        twist.nothingLost = what == 4;
        trial.run(n);
        return trial.crossOfAll();
    }

    // ---- what comes, nobody turning the knob ----

    private void tryTurnedBy(int degrees) {
        tryAsItGoes();
        trial.twist.nobodyTurns = true;
        trial.set = degrees;
    }

    /** Where nobody turns, rooms and fuel are the same without people. */
    private void tryRoomsAlone(int degrees) {
        tryTurnedBy(degrees);
        trial.twist.roomsAlone = true;
    }

    private int hoursTillWarm(int room, int tenths, int degrees) {
        tryRoomsAlone(degrees);
        for (int hours = 0; hours < FAR; hours++) {
            if (trial.warm[room] >= tenths) {
                return hours;
            }
            trial.run(1);
        }
        return trial.warm[room] >= tenths ? FAR : NOT_SO;
    }

    private boolean canBeWarm(int room, int tenths) {
        return isRoom(room) && isWithin(tenths, 0, HOTTEST);
    }

    public int soon(int room, int tenths, int degrees) {
        if (!canBeWarm(room, tenths) || !isSet(degrees)) {
            return NONE;
        }
        return hoursTillWarm(room, tenths, degrees);
    }

    public int quicker(int room, int tenths, int degrees, int others) {
        if (!canBeWarm(room, tenths) || !isSet(degrees) || !isSet(others)) {
            return NONE;
        }
        int first = hoursTillWarm(room, tenths, degrees);
        int second = hoursTillWarm(room, tenths, others);
        if (second == NOT_SO) {
            return 0;
        }
        return first == NOT_SO || second < first ? 1 : 0;
    }

    public int best(int n, int what) {
        if (!isWithin(n, 1, NEAR) || !isWithin(what, 0, 1)) {
            return NONE;
        }
        int best = NONE;
        int least = 0;
        for (int degrees = LOWEST; degrees <= HIGHEST; degrees++) {
            tryTurnedBy(degrees);
            trial.run(n);
            int cross = trial.crossOfAll();
            if (best == NONE || cross < least) {
                best = degrees;
                least = cross;
            }
        }
        return what == 0 ? best : least;
    }

    public int cheap(int n, int bound) {
        if (!isWithin(n, 1, NEAR) || !isWithin(bound, 0, 99999)) {
            return NONE;
        }
        int cheapest = NOT_SO;
        int least = 0;
        for (int degrees = LOWEST; degrees <= HIGHEST; degrees++) {
            tryTurnedBy(degrees);
            trial.run(n);
            boolean bearable = trial.crossOfAll() <= bound;
            if (bearable && (cheapest == NOT_SO || trial.paid < least)) {
                cheapest = degrees;
                least = trial.paid;
            }
        }
        return cheapest;
    }

    public int hears(int n) {
        if (!isWithin(n, 1, NEAR)) {
            return NONE;
        }
        int best = NONE;
        int least = 0;
        for (int room = 0; room < told.rooms.size; room++) {
            tryTurnedBy(now.set);
            trial.hears = room;
            trial.run(n);
            int cross = trial.crossOfAll();
            if (best == NONE || cross < least) {
                best = room;
                least = cross;
            }
        }
        return best;
    }

    public int onAgain(int room, int tenths, int n) {
        if (!canBeWarm(room, tenths) || !isWithin(n, 0, NEAR)) {
            return NONE;
        }
        for (int hours = n; hours >= 0; hours--) {
            tryRoomsAlone(LOWEST);
            trial.run(hours);
            trial.set = HIGHEST;
            trial.run(n - hours);
            if (trial.warm[room] >= tenths) {
                return hours;
            }
        }
        return NOT_SO;
    }

    private int paidBy(int degrees, int n) {
        tryRoomsAlone(degrees);
        trial.run(n);
        return trial.paid;
    }

    public int night(int n) {
        if (!isWithin(n, 1, 7)) {
            return Integer.MIN_VALUE;
        }
        int through = paidBy(now.set, n * DAY);
        tryRoomsAlone(now.set);
        for (int hours = 0; hours < n * DAY; hours++) {
            int hour = trial.hour % DAY;
            trial.set = hour >= 22 || hour <= 5 ? LOWEST : now.set;
            trial.run(1);
        }
        return trial.paid - through;
    }

    public int degree(int n) {
        if (!isWithin(n, 1, NEAR)) {
            return NONE;
        }
        if (now.set >= HIGHEST) {
            return 0;
        }
        return Math.max(0, paidBy(now.set + 1, n) - paidBy(now.set, n));
    }

    public int strip(int room, int n) {
        if (!isRoom(room) || !isWithin(n, 1, NEAR)) {
            return NONE;
        }
        int asIs = paidBy(now.set, n);
        tryRoomsAlone(now.set);
        trial.twist.halved = room;
        trial.run(n);
        return Math.max(0, asIs - trial.paid);
    }

    private int crossByWishOf(int other, int person) {
        tryTurnedBy(limited(told.people.wants[other], LOWEST, HIGHEST));
        trial.run(DAY);
        return trial.cross[person];
    }

    public int givesIn(int one, int other) {
        if (!areTwo(one, other)) {
            return NONE;
        }
        int ofOne = crossByWishOf(other, one);
        int ofOther = crossByWishOf(one, other);
        if (ofOne == ofOther) {
            return Math.min(one, other);
        }
        return ofOne < ofOther ? one : other;
    }

    // ---- two who say more than they want ----

    private static int said(int wants, int how) {
        if (how == 0) {
            return wants;
        }
        return how == 1 ? wants + 2 : wants - 2;
    }

    private static int lossBySaying(int mine, int how, int theirs, int theirHow) {
        int degrees = limited((said(mine, how) + said(theirs, theirHow)) / 2, LOWEST, HIGHEST);
        return 10 * distance(degrees, mine) + (how == 0 ? 0 : 6);
    }

    private static boolean isBestSaying(int mine, int how, int theirs, int theirHow) {
        int loss = lossBySaying(mine, how, theirs, theirHow);
        for (int otherwise = 0; otherwise < 3; otherwise++) {
            if (lossBySaying(mine, otherwise, theirs, theirHow) < loss) {
                return false;
            }
        }
        return true;
    }

    private boolean isRest(int one, int how, int other, int otherHow) {
        int mine = told.people.wants[one];
        int theirs = told.people.wants[other];
        return isBestSaying(mine, how, theirs, otherHow) && isBestSaying(theirs, otherHow, mine, how);
    }

    /** The k-th of the nine ways to say that rest; NOT_SO behind the last one. */
    private int restAt(int one, int other, int k) {
        int found = 0;
        for (int way = 0; way < 9; way++) {
            if (isRest(one, way / 3, other, way % 3)) {
                if (found == k) {
                    return 10 * (way / 3) + way % 3;
                }
                found++;
            }
        }
        return NOT_SO;
    }

    public int rests(int one, int other) {
        if (!areTwo(one, other)) {
            return NONE;
        }
        int found = 0;
        while (found < 9 && restAt(one, other, found) != NOT_SO) {
            found++;
        }
        return found;
    }

    public int rest(int one, int other, int k) {
        return areTwo(one, other) && k >= 0 ? restAt(one, other, k) : NONE;
    }

    // ---- how late one feels by a knob's wear ----

    public int wear(int hours, int degrees, boolean atLeast) {
        if (!isWithin(hours, 1, LONGEST_WEAR) || !isSet(degrees)) {
            return NONE;
        }
        return log.addWear(hours, degrees, atLeast);
    }

    public int strike(int worn) {
        return log.addStrike(worn);
    }

    public boolean known(int n) {
        if (!isWithin(n, -1, log.size)) {
            return false;
        }
        log.known = n;
        return true;
    }

    public int lately(int person) {
        if (!isPerson(person)) {
            return NONE;
        }
        log.ponder();
        int bits = 0;
        for (int late = 0; late <= LATEST; late++) {
            if (isWornBy(person, late)) {
                bits |= 1 << late;
            }
        }
        return bits;
    }

    private boolean isWornBy(int person, int late) {
        trial.begin(told);
        trial.twist.clear();
        trial.twist.feeler = person;
        trial.twist.feelerLate = late;
        int longest = log.longestKnown();
        for (int hours = 1; hours <= longest; hours++) {
            trial.run(1);
            if (!log.agrees(hours, trial.set)) {
                return false;
            }
        }
        return true;
    }

    /** Cuts the tape's first bytes into words, numbers and signs. */
    private static final class Tokens {
        static final int WRONG = 0;
        static final int END = 1;
        static final int NUMBER = 2;
        static final int FREE = 3;
        // A sign of one byte is its own kind; these stand above all bytes.
        static final int AT_MOST = 256;
        static final int UNLIKE = 257;
        static final int AT_LEAST = 258;
        // The words of the language, in the order of LANGUAGE.
        static final int ROOM = 300;
        static final int PERSON = 301;
        static final int SUN = 302;
        static final int OUT = 303;
        static final int KNOB = 304;
        static final int PRICE = 305;
        static final int LAW = 306;
        static final int FIRST_LAW = 307;
        static final int OR = 310;
        static final int AND = 311;
        static final int NOT = 312;
        static final int FIRST_NAME = 313;

        private static final int WORDS = 20;
        private static final String LANGUAGE =
            "room person sun out knob price law lose turn cross or and not warm outer felt wish set leak hour ";
        // Far above every number that may stand, so that many digits don't overflow.
        private static final int HUGE = 1000000;

        private final int[] words = new int[WORDS];
        private final byte[] bytes;
        private int length;
        private int next;
        int kind;
        /** A NUMBER's value, a word's letters of 5 bits. */
        int value;
        int place;

        Tokens(byte[] bytes) {
            this.bytes = bytes;
            int word = 0;
            int start = 0;
            for (int at = 0; at < LANGUAGE.length(); at++) {
                if (LANGUAGE.charAt(at) == ' ' && word < WORDS) {
                    words[word] = packed(start, at);
                    word++;
                    start = at + 1;
                }
            }
        }

        private static int packed(int start, int end) {
            int letters = 0;
            for (int i = 0; i < LETTERS; i++) {
                int at = start + i;
                letters = letters * 32 + (at < end ? LANGUAGE.charAt(at) - 'a' + 1 : 0);
            }
            return letters;
        }

        static boolean isName(int kind) {
            return kind >= FIRST_NAME && kind < ROOM + WORDS;
        }

        static boolean isLaw(int kind) {
            return kind >= FIRST_LAW && kind < FIRST_LAW + LAWS;
        }

        void begin(int n) {
            length = Math.min(n, bytes.length);
            next = 0;
            advance();
        }

        private int byteAt(int at) {
            return at < length ? bytes[at] : END;
        }

        void advance() {
            while (next < length && (bytes[next] == 32 || bytes[next] == 10)) {
                next++;
            }
            place = next;
            if (next >= length) {
                kind = END;
                return;
            }
            int first = bytes[next];
            if (first >= 'a' && first <= 'z') {
                readWord();
            } else if (first >= '0' && first <= '9') {
                readNumber();
            } else {
                readSign(first);
            }
        }

        private void readWord() {
            int letters = 0;
            value = 0;
            while (next < length && bytes[next] >= 'a' && bytes[next] <= 'z') {
                if (letters < LETTERS) {
                    value = value * 32 + bytes[next] - 'a' + 1;
                }
                letters++;
                next++;
            }
            if (letters > LETTERS) {
                kind = WRONG;
                return;
            }
            value <<= 5 * (LETTERS - letters);
            kind = FREE;
            for (int word = 0; word < WORDS; word++) {
                if (words[word] == value) {
                    kind = ROOM + word;
                }
            }
        }

        private void readNumber() {
            kind = NUMBER;
            value = 0;
            while (next < length && bytes[next] >= '0' && bytes[next] <= '9') {
                value = Math.min(HUGE, value * 10 + bytes[next] - '0');
                next++;
            }
        }

        private void readSign(int first) {
            next++;
            int second = byteAt(next);
            kind = WRONG;
            switch (first) {
                case ';':
                case '(':
                case ')':
                case '+':
                case '-':
                case '*':
                case '/':
                case '=':
                    kind = first;
                    return;
                case '<':
                    kind = second == '=' ? AT_MOST : second == '>' ? UNLIKE : first;
                    break;
                case '>':
                    kind = second == '=' ? AT_LEAST : first;
                    break;
                default:
                    return;
            }
            if (kind != first) {
                next++;
            }
        }
    }

    /** Reads an E into laws, its signs behind what they join. */
    private static final class Formula {
        private static final int DENIES = 3;
        private static final int COMPARES = 4;

        private final Tokens tokens;
        private final int[] waiting = new int[MOST_KNOTS + MOST_BRACKETS];
        private final boolean[] compared = new boolean[MOST_BRACKETS + 1];
        private int waits;
        private int brackets;
        private boolean partDue;
        private boolean notFits;

        Formula(Tokens tokens) {
            this.tokens = tokens;
        }

        /** Up to the ';' behind it: its FAULT at the token that stands then, 0 without. */
        int readInto(Laws laws) {
            waits = 0;
            brackets = 0;
            compared[0] = false;
            partDue = true;
            notFits = true;
            for (int i = 0; i <= TAPE_BYTES; i++) {
                if (!partDue && brackets == 0 && tokens.kind == ';') {
                    release(laws, 1);
                    return 0;
                }
                int fault = partDue ? readPart(laws) : readJoint(laws);
                if (fault != 0) {
                    return fault;
                }
                tokens.advance();
            }
            return 1;
        }

        private int readPart(Laws laws) {
            int kind = tokens.kind;
            if (kind == '(') {
                return openBracket();
            }
            boolean isNot = kind == Tokens.NOT && notFits;
            boolean isNumber = kind == Tokens.NUMBER;
            if (!isNot && !isNumber && !Tokens.isName(kind)) {
                return 1;
            }
            if (laws.knots >= MOST_KNOTS || isNumber && tokens.value > 9999) {
                return 2;
            }
            laws.knots++;
            if (isNot) {
                await(kind);
            } else {
                laws.write(kind, tokens.value);
                partDue = false;
            }
            return 0;
        }

        private int openBracket() {
            if (brackets >= MOST_BRACKETS) {
                return 2;
            }
            brackets++;
            compared[brackets] = false;
            notFits = true;
            await('(');
            return 0;
        }

        private int readJoint(Laws laws) {
            int kind = tokens.kind;
            if (kind == ')' && brackets > 0) {
                release(laws, 1);
                // What is left on top is the '(' itself.
                waits--;
                brackets--;
                return 0;
            }
            int rank = rankOf(kind);
            if (rank == 0 || rank == DENIES || rank == COMPARES && compared[brackets]) {
                return 1;
            }
            if (laws.knots >= MOST_KNOTS) {
                return 2;
            }
            laws.knots++;
            release(laws, rank);
            await(kind);
            if (rank <= COMPARES) {
                compared[brackets] = rank == COMPARES;
            }
            partDue = true;
            notFits = rank < COMPARES;
            return 0;
        }

        private void await(int kind) {
            if (waits < waiting.length) {
                waiting[waits] = kind;
                waits++;
            }
        }

        /** The waiting signs that bind as strong as rank at least, down to the last '('. */
        private void release(Laws laws, int rank) {
            while (waits > 0 && rankOf(waiting[waits - 1]) >= rank) {
                waits--;
                laws.write(waiting[waits], 0);
            }
        }

        private static int rankOf(int kind) {
            switch (kind) {
                case Tokens.OR:
                    return 1;
                case Tokens.AND:
                    return 2;
                case Tokens.NOT:
                    return DENIES;
                case '<':
                case '=':
                case '>':
                case Tokens.AT_MOST:
                case Tokens.UNLIKE:
                case Tokens.AT_LEAST:
                    return COMPARES;
                case '+':
                case '-':
                    return 5;
                case '*':
                case '/':
                    return 6;
                default:
                    return 0;
            }
        }
    }

    /** Reads a text into a house up to its first fault. */
    private static final class Reader {
        private final Tokens tokens;
        private final Formula formula;
        private House house;
        private int number;
        private int toldRoom;
        int fault;
        int place;

        Reader(byte[] bytes) {
            tokens = new Tokens(bytes);
            formula = new Formula(tokens);
        }

        void begin(int n, House into) {
            house = into;
            house.clear();
            fault = 0;
            place = NONE;
            tokens.begin(n);
        }

        boolean isMore() {
            return tokens.kind != Tokens.END;
        }

        private boolean fails(int which) {
            fault = which;
            place = tokens.place;
            return false;
        }

        /** False with a FAULT. */
        boolean readLine() {
            boolean good;
            switch (tokens.kind) {
                case Tokens.ROOM:
                    good = readRoom();
                    break;
                case Tokens.PERSON:
                    good = readPerson();
                    break;
                case Tokens.SUN:
                    good = readSun();
                    break;
                case Tokens.OUT:
                    good = readOut();
                    break;
                case Tokens.KNOB:
                    good = readKnob();
                    break;
                case Tokens.PRICE:
                    good = readPrice();
                    break;
                case Tokens.LAW:
                    good = readLaw();
                    break;
                default:
                    good = fails(1);
            }
            return good && readEnd();
        }

        private boolean readEnd() {
            if (tokens.kind != ';') {
                return fails(1);
            }
            house.lines++;
            tokens.advance();
            return true;
        }

        private boolean readNumber(int least, int most) {
            if (tokens.kind != Tokens.NUMBER) {
                return fails(1);
            }
            if (!isWithin(tokens.value, least, most)) {
                return fails(2);
            }
            number = tokens.value;
            tokens.advance();
            return true;
        }

        /** A number 0 .. most into a row that has this place. */
        private boolean readInto(int[] row, int at, int most) {
            boolean good = readNumber(0, most);
            if (good) {
                row[at] = number;
            }
            return good;
        }

        /** A name that the first ones of a row that has this place don't have. */
        private boolean readName(int[] names, int at) {
            if (tokens.kind != Tokens.FREE) {
                return fails(1);
            }
            if (placeOf(tokens.value, names, at) != NONE) {
                return fails(3);
            }
            names[at] = tokens.value;
            tokens.advance();
            return true;
        }

        private boolean readToldRoom() {
            if (tokens.kind != Tokens.FREE) {
                return fails(1);
            }
            toldRoom = placeOf(tokens.value, house.rooms.names, house.rooms.size);
            if (toldRoom == NONE) {
                return fails(4);
            }
            tokens.advance();
            return true;
        }

        private boolean readRoom() {
            Rooms rooms = house.rooms;
            int at = rooms.size;
            if (at >= MOST_ROOMS) {
                return fails(2);
            }
            tokens.advance();
            boolean good = readName(rooms.names, at) && readInto(rooms.warm, at, 400)
                && readInto(rooms.leak, at, 99) && readInto(rooms.heat, at, 99);
            if (good) {
                rooms.size++;
            }
            return good;
        }

        private boolean readPerson() {
            People people = house.people;
            int at = people.size;
            if (at >= MOST_PEOPLE) {
                return fails(2);
            }
            tokens.advance();
            if (!readName(people.names, at) || !readToldRoom()) {
                return false;
            }
            people.sits[at] = toldRoom;
            boolean good = readInto(people.wants, at, 40) && readInto(people.late, at, LATEST)
                && readInto(people.passes, at, DAY - 1);
            if (good) {
                people.size++;
            }
            return good;
        }

        private boolean readSun() {
            int at = house.suns;
            if (at >= MOST_SUNS) {
                return fails(2);
            }
            tokens.advance();
            if (!readToldRoom()) {
                return false;
            }
            house.sunRooms[at] = toldRoom;
            boolean good = readInto(house.sunHours, at, DAY - 1) && readInto(house.sunTenths, at, 99);
            if (good) {
                house.suns++;
            }
            return good;
        }

        private boolean readOut() {
            int at = house.outs;
            if (at >= MOST_OUTS) {
                return fails(2);
            }
            tokens.advance();
            boolean good = readInto(house.outTenths, at, 400);
            if (good) {
                house.outs++;
            }
            return good;
        }

        private boolean readKnob() {
            if (house.knobTold) {
                return fails(3);
            }
            tokens.advance();
            if (!readNumber(LOWEST, HIGHEST)) {
                return false;
            }
            house.set = number;
            if (!readToldRoom()) {
                return false;
            }
            house.hears = toldRoom;
            house.knobTold = true;
            return true;
        }

        private boolean readPrice() {
            if (house.priceTold) {
                return fails(3);
            }
            tokens.advance();
            if (!readNumber(0, 99)) {
                return false;
            }
            house.price = number;
            house.priceTold = true;
            return true;
        }

        private boolean readLaw() {
            tokens.advance();
            if (!Tokens.isLaw(tokens.kind)) {
                return fails(1);
            }
            int which = tokens.kind - Tokens.FIRST_LAW;
            Laws laws = house.laws;
            if (laws.isTold(which)) {
                return fails(3);
            }
            tokens.advance();
            laws.begin(which);
            int wrong = formula.readInto(laws);
            if (wrong != 0) {
                return fails(wrong);
            }
            laws.end(which);
            return true;
        }
    }

    /** The told laws, a row of knots each, every sign behind what it joins. */
    private static final class Laws {
        static final int WARM = 0;
        static final int OUTER = 1;
        static final int FELT = 2;
        static final int WISH = 3;
        static final int SET = 4;
        static final int LEAK = 5;
        static final int HOUR = 6;
        private static final int NAMES = 7;

        private final int[] kinds = new int[MOST_KNOTS];
        private final int[] numbers = new int[MOST_KNOTS];
        private final int[] starts = new int[LAWS];
        private final int[] ends = new int[LAWS];
        private final long[] stack = new long[MOST_KNOTS];
        final int[] names = new int[NAMES];
        private int written;
        /** Read so far; a sign is read before it is written. */
        int knots;

        void clear() {
            written = 0;
            knots = 0;
            for (int which = 0; which < LAWS; which++) {
                starts[which] = 0;
                ends[which] = 0;
            }
        }

        boolean isTold(int which) {
            return ends[which] > starts[which];
        }

        void begin(int which) {
            starts[which] = written;
            ends[which] = written;
        }

        void end(int which) {
            ends[which] = written;
        }

        void write(int kind, int number) {
            if (written < MOST_KNOTS) {
                kinds[written] = kind;
                numbers[written] = number;
                written++;
            }
        }

        /** By the names as they are set; ERROR without such a law, too. */
        long value(int which) {
            int top = 0;
            for (int at = starts[which]; at < ends[which]; at++) {
                int kind = kinds[at];
                if (kind == Tokens.NUMBER) {
                    stack[top] = numbers[at];
                    top++;
                } else if (Tokens.isName(kind)) {
                    stack[top] = names[kind - Tokens.FIRST_NAME];
                    top++;
                } else if (top > 0 && kind == Tokens.NOT) {
                    stack[top - 1] = stack[top - 1] == 0 ? 1 : 0;
                } else if (top > 1) {
                    top--;
                    long value = joined(kind, stack[top - 1], stack[top]);
                    if (value > GREATEST || value < -GREATEST) {
                        return ERROR;
                    }
                    stack[top - 1] = value;
                }
            }
            return top > 0 ? stack[0] : ERROR;
        }

        /** Of two values that are no ERROR; beyond them with one. */
        private static long joined(int kind, long left, long right) {
            switch (kind) {
                case '+':
                    return left + right;
                case '-':
                    return left - right;
                case '*':
                    // Two great values would go beyond a long: looked at by dividing.
                    long most = left == 0 ? GREATEST : GREATEST / (left < 0 ? -left : left);
                    return right > most || right < -most ? ERROR : left * right;
                case '/':
                    return right == 0 ? ERROR : left / right;
                case '<':
                    return left < right ? 1 : 0;
                case Tokens.AT_MOST:
                    return left <= right ? 1 : 0;
                case '=':
                    return left == right ? 1 : 0;
                case Tokens.UNLIKE:
                    return left != right ? 1 : 0;
                case Tokens.AT_LEAST:
                    return left >= right ? 1 : 0;
                case '>':
                    return left > right ? 1 : 0;
                case Tokens.AND:
                    return left != 0 && right != 0 ? 1 : 0;
                case Tokens.OR:
                    return left != 0 || right != 0 ? 1 : 0;
                default:
                    return ERROR;
            }
        }
    }

    private static final class Rooms {
        int size;
        final int[] names = new int[MOST_ROOMS];
        final int[] warm = new int[MOST_ROOMS];
        final int[] leak = new int[MOST_ROOMS];
        final int[] heat = new int[MOST_ROOMS];
    }

    private static final class People {
        int size;
        final int[] names = new int[MOST_PEOPLE];
        final int[] sits = new int[MOST_PEOPLE];
        final int[] wants = new int[MOST_PEOPLE];
        final int[] late = new int[MOST_PEOPLE];
        final int[] passes = new int[MOST_PEOPLE];
    }

    /** All that a text tells; hours don't change it. */
    private static final class House {
        final Rooms rooms = new Rooms();
        final People people = new People();
        final Laws laws = new Laws();
        int suns;
        final int[] sunRooms = new int[MOST_SUNS];
        final int[] sunHours = new int[MOST_SUNS];
        final int[] sunTenths = new int[MOST_SUNS];
        int outs;
        final int[] outTenths = new int[MOST_OUTS];
        int set = 20;
        int hears;
        int price = 3;
        boolean knobTold;
        boolean priceTold;
        int lines;

        void clear() {
            rooms.size = 0;
            people.size = 0;
            laws.clear();
            suns = 0;
            outs = 0;
            set = 20;
            hears = 0;
            price = 3;
            knobTold = false;
            priceTold = false;
            lines = 0;
        }

        int sunOn(int room, int hourOfDay) {
            int tenths = 0;
            for (int sun = 0; sun < suns; sun++) {
                if (sunRooms[sun] == room && sunHours[sun] == hourOfDay) {
                    tenths += sunTenths[sun];
                }
            }
            return tenths;
        }

        int outAt(int hour) {
            return outs > 0 && hour >= 0 ? outTenths[hour % outs] : 100;
        }
    }

    /** In what a course is otherwise than as it goes. */
    private static final class Twist {
        boolean nobodyTurns;
        boolean roomsAlone;
        boolean noSun;
        boolean nobodyLate;
        boolean nothingLost;
        int absent = NONE;
        int halved = NONE;
        int feeler = NONE;
        int feelerLate;
        boolean byChance;
        long seed;

        void clear() {
            nobodyTurns = false;
            roomsAlone = false;
            noSun = false;
            nobodyLate = false;
            nothingLost = false;
            absent = NONE;
            halved = NONE;
            feeler = NONE;
            byChance = false;
        }

        int lateOf(int person, int told) {
            if (person == feeler) {
                return feelerLate;
            }
            return nobodyLate ? 0 : told;
        }

        int leakOf(int room, int told) {
            return room == halved ? told / 2 : told;
        }

        int outOf(int told) {
            if (!byChance) {
                return told;
            }
            seed = seed * 1103515245L + 12345L & 0x7fffffffL;
            return limited(told + seed / 65536 % 101 - 50, 0, 400);
        }
    }

    /** A house at an hour, and all that was counted on the way there. */
    private static final class Course {
        final Twist twist = new Twist();
        private House house;
        int hour;
        int set;
        int hears;
        boolean candle;
        int outside;
        final boolean[] jumpers = new boolean[MOST_PEOPLE];
        /** A row of rooms as they are, behind it as they were an hour ago and so on. */
        final int[] warm = new int[MOST_ROOMS * (LATEST + 1)];
        final int[] cross = new int[MOST_PEOPLE];
        final int[] turned = new int[MOST_PEOPLE];
        final int[] learnSum = new int[DAY];
        final int[] learnTimes = new int[DAY];
        int paid;
        int fire;
        int turns;
        int swung;
        private int lastWay;

        Course(House house) {
            this.house = house;
            set = house.set;
        }

        void begin(House from) {
            house = from;
            hour = 0;
            set = house.set;
            hears = house.hears;
            candle = false;
            for (int person = 0; person < MOST_PEOPLE; person++) {
                jumpers[person] = false;
            }
            for (int at = 0; at < warm.length; at++) {
                warm[at] = house.rooms.warm[at % MOST_ROOMS];
            }
            for (int at = 0; at < DAY; at++) {
                learnSum[at] = 0;
                learnTimes[at] = 0;
            }
            fire = 0;
            forget();
        }

        /** What is asked as more is counted from 0 on. */
        void forget() {
            for (int person = 0; person < MOST_PEOPLE; person++) {
                cross[person] = 0;
                turned[person] = 0;
            }
            paid = 0;
            turns = 0;
            swung = 0;
            lastWay = 0;
        }

        void copy(Course from) {
            house = from.house;
            hour = from.hour;
            set = from.set;
            hears = from.hears;
            candle = from.candle;
            for (int person = 0; person < MOST_PEOPLE; person++) {
                jumpers[person] = from.jumpers[person];
            }
            System.arraycopy(from.warm, 0, warm, 0, warm.length);
            System.arraycopy(from.cross, 0, cross, 0, cross.length);
            System.arraycopy(from.turned, 0, turned, 0, turned.length);
            System.arraycopy(from.learnSum, 0, learnSum, 0, DAY);
            System.arraycopy(from.learnTimes, 0, learnTimes, 0, DAY);
            paid = from.paid;
            fire = from.fire;
            turns = from.turns;
            swung = from.swung;
            lastWay = from.lastWay;
        }

        boolean isOn() {
            return house.rooms.size > 0 && warm[hears] + (candle ? 50 : 0) < 10 * set;
        }

        int feltBy(int person) {
            int late = twist.lateOf(person, house.people.late[person]);
            return warm[late * MOST_ROOMS + house.people.sits[person]] + (jumpers[person] ? 20 : 0);
        }

        int crossOfAll() {
            int sum = 0;
            for (int person = 0; person < house.people.size; person++) {
                sum += cross[person];
            }
            return sum;
        }

        int spreadNow() {
            if (house.rooms.size == 0) {
                return 0;
            }
            int warmest = warm[0];
            int coldest = warm[0];
            for (int room = 1; room < house.rooms.size; room++) {
                warmest = Math.max(warmest, warm[room]);
                coldest = Math.min(coldest, warm[room]);
            }
            return warmest - coldest;
        }

        void run(int hours) {
            for (int i = 0; i < hours; i++) {
                outside = twist.outOf(house.outAt(hour));
                boolean on = isOn();
                if (on) {
                    paid += house.price;
                    fire++;
                }
                changeRooms(on);
                if (!twist.nobodyTurns) {
                    turnKnob();
                }
                if (!twist.roomsAlone) {
                    crossPeople();
                }
                hour++;
            }
        }

        private void changeRooms(boolean on) {
            System.arraycopy(warm, 0, warm, MOST_ROOMS, MOST_ROOMS * LATEST);
            for (int room = 0; room < house.rooms.size; room++) {
                int gain = on ? house.rooms.heat[room] : 0;
                if (!twist.noSun) {
                    gain += house.sunOn(room, hour % DAY);
                }
                if (!twist.nothingLost) {
                    gain -= lossOf(room);
                }
                warm[room] = limited(warm[room] + gain, 0, HOTTEST);
            }
        }

        private int lossOf(int room) {
            int leak = twist.leakOf(room, house.rooms.leak[room]);
            long loss = roomLaw(room, leak);
            if (loss == ERROR) {
                loss = (warm[room] - outside) * leak / 100;
            }
            return limited(loss, -400, 400);
        }

        private void nameRoom(int room, int leak) {
            int[] names = house.laws.names;
            names[Laws.WARM] = warm[room];
            names[Laws.OUTER] = outside;
            names[Laws.FELT] = 0;
            names[Laws.WISH] = 0;
            names[Laws.SET] = 10 * set;
            names[Laws.LEAK] = leak;
            names[Laws.HOUR] = hour % DAY;
        }

        /** lose by the names of a room, outside being as it is. */
        long roomLaw(int room, int leak) {
            nameRoom(room, leak);
            return house.laws.value(LOSE);
        }

        /** turn or cross by what one feels, outside being as it is. */
        long personLaw(int which, int person, int felt) {
            int room = house.people.sits[person];
            nameRoom(room, house.rooms.leak[room]);
            house.laws.names[Laws.FELT] = felt;
            house.laws.names[Laws.WISH] = 10 * house.people.wants[person];
            return house.laws.value(which);
        }

        private void turnKnob() {
            for (int person = 0; person < house.people.size; person++) {
                if (person != twist.absent && house.people.passes[person] == hour % DAY) {
                    int felt = feltBy(person);
                    long by = personLaw(TURN, person, felt);
                    if (by == ERROR) {
                        int wish = 10 * house.people.wants[person];
                        by = felt < wish - 5 ? 1 : felt > wish + 5 ? -1 : 0;
                    }
                    turnTo(limited(set + limited(by, -9, 9), LOWEST, HIGHEST), person);
                }
            }
        }

        private void turnTo(int then, int person) {
            if (then == set) {
                return;
            }
            int way = then > set ? 1 : -1;
            if (way == -lastWay) {
                swung++;
            }
            lastWay = way;
            set = then;
            turns++;
            turned[person]++;
            learnSum[hour % DAY] += then;
            learnTimes[hour % DAY]++;
        }

        private void crossPeople() {
            for (int person = 0; person < house.people.size; person++) {
                if (person != twist.absent) {
                    int felt = feltBy(person);
                    long more = personLaw(CROSS, person, felt);
                    if (more == ERROR) {
                        more = distance(felt, 10 * house.people.wants[person]) / 10;
                    }
                    cross[person] += limited(more, 0, 999);
                }
            }
        }
    }

    /** The knob's wear and strikes, in the order in which they were told. */
    private static final class Log {
        int size;
        /** By how many it is known; NONE: by all, those to come too. */
        int known = NONE;
        private final int[] hours = new int[MOST_WEAR];
        private final int[] degrees = new int[MOST_WEAR];
        private final boolean[] atLeast = new boolean[MOST_WEAR];
        /** Which one it strikes; NONE for wear itself. */
        private final int[] strikes = new int[MOST_WEAR];
        private final boolean[] struck = new boolean[MOST_WEAR];

        void clear() {
            size = 0;
            known = NONE;
        }

        int knownBy() {
            return known == NONE ? size : known;
        }

        int addWear(int hour, int set, boolean is) {
            if (size >= MOST_WEAR) {
                return NONE;
            }
            hours[size] = hour;
            degrees[size] = set;
            atLeast[size] = is;
            strikes[size] = NONE;
            size++;
            return size - 1;
        }

        int addStrike(int worn) {
            if (worn < 0 || worn >= size || size >= MOST_WEAR) {
                return NONE;
            }
            strikes[size] = worn;
            size++;
            return size - 1;
        }

        /** Which are struck: a strike hits ahead of itself only, so the last one is sure. */
        void ponder() {
            int n = knownBy();
            for (int i = 0; i < n; i++) {
                struck[i] = false;
            }
            for (int i = n - 1; i >= 0; i--) {
                if (!struck[i] && strikes[i] != NONE) {
                    struck[strikes[i]] = true;
                }
            }
        }

        private boolean isKnownWear(int i) {
            return strikes[i] == NONE && !struck[i];
        }

        int longestKnown() {
            int longest = 0;
            int n = knownBy();
            for (int i = 0; i < n; i++) {
                if (isKnownWear(i)) {
                    longest = Math.max(longest, hours[i]);
                }
            }
            return longest;
        }

        boolean agrees(int hour, int set) {
            int n = knownBy();
            for (int i = 0; i < n; i++) {
                if (hours[i] == hour && isKnownWear(i) && set >= degrees[i] != atLeast[i]) {
                    return false;
                }
            }
            return true;
        }
    }

    /** What calls did since the latest hour, as it was before each of them. */
    private static final class Past {
        static final int KNOB = 0;
        static final int PLACE = 1;
        static final int LIGHT = 2;
        static final int WOOL = 3;

        int size;
        private final int[] kinds = new int[MOST_UNDONE];
        private final int[] people = new int[MOST_UNDONE];
        private final int[] before = new int[MOST_UNDONE];

        void note(int kind, int person, int was) {
            if (size >= MOST_UNDONE) {
                size = MOST_UNDONE - 1;
                System.arraycopy(kinds, 1, kinds, 0, size);
                System.arraycopy(people, 1, people, 0, size);
                System.arraycopy(before, 1, before, 0, size);
            }
            kinds[size] = kind;
            people[size] = person;
            before[size] = was;
            size++;
        }

        void takeBack(Course course) {
            size--;
            int was = before[size];
            switch (kinds[size]) {
                case KNOB:
                    course.set = was;
                    break;
                case PLACE:
                    course.hears = was;
                    break;
                case LIGHT:
                    course.candle = was == 1;
                    break;
                default:
                    course.jumpers[people[size]] = was == 1;
            }
        }
    }
}
