import java.util.NoSuchElementException;

/** The drowned village lets rooms: what each call answers is told in the document, promise by promise. */
public final class DrownedRooms {
    public static final int NONE = -1;

    private static final int LAST_DAY = 400;
    private static final int TOP_LEVEL = 99;
    private static final int TOP_WHEEL = 5;
    private static final int MOST_NIGHTS = 30;
    private static final int MOST_DAYS_AT_ONCE = 60;
    private static final int ODDS_DAYS = 20;
    private static final int IMAGES = 2;
    private static final int ANOTHER_LIVES = -1000;

    private static final int CANT_COME = 1;
    private static final int NOT_IN_RANGE = 2;
    private static final int WRONG_NAME = 3;
    private static final int TOO_MANY = 4;

    private final Tape tape;
    private final Valley valley;
    private final Valley draftValley;
    private final Lake lake;
    private final Lake trial;
    private final History history;
    private final Sentence sentence;
    private final Sentence draftSentence;
    private final Book bookRead;
    private final Stays staysFound;
    private final Plan planFound;
    private final Boat boat;
    private final Marks marksHeard;
    private final Image[] images;
    private final StringBuilder billText;
    private int latestFault;

    public DrownedRooms() {
        tape = new Tape();
        valley = new Valley();
        draftValley = new Valley();
        lake = new Lake(valley);
        trial = new Lake(valley);
        history = new History(valley);
        sentence = new Sentence();
        draftSentence = new Sentence();
        bookRead = new Book();
        staysFound = new Stays();
        planFound = new Plan();
        boat = new Boat();
        marksHeard = new Marks();
        images = new Image[IMAGES];
        for (int k = 0; k < IMAGES; k++) {
            images[k] = new Image();
        }
        billText = new StringBuilder();
    }

    public int feed(int a, int b, int c, int d, int e) {
        if (!tape.hasRoomForFeed()) {
            return NONE;
        }
        tape.add(a);
        tape.add(b);
        tape.add(c);
        tape.add(d);
        tape.add(e);
        return tape.size();
    }

    public boolean end(int n) {
        return tape.cutTo(n);
    }

    public int valley() {
        int lines = draftValley.readFrom(tape);
        closeText();
        if (latestFault != 0) {
            return -1 - tape.faultPlace();
        }
        valley.copyFrom(draftValley);
        lake.begin();
        sentence.forget();
        history.forget();
        return lines;
    }

    public int fault() {
        return latestFault;
    }

    public int room(int r, int what) throws NoSuchElementException {
        if (!isRoom(r)) {
            throw new NoSuchElementException("no such room");
        }
        switch (what) {
            case 0: return valley.houseOf[r];
            case 1: return valley.foot[r];
            case 2: return valley.price[r];
            case 3: return lake.depthIn(r);
            case 4: return lake.whoHas(r);
            case 5: return lake.brought[r];
            default: throw new NoSuchElementException("no such thing of a room");
        }
    }

    public int guest(int g, int what) throws NoSuchElementException {
        if (!isGuest(g)) {
            throw new NoSuchElementException("no such guest");
        }
        switch (what) {
            case 0: return lake.purse[g];
            case 1: return valley.breath[g];
            case 2: return lake.roomOf[g];
            case 3: return lake.nights[g];
            case 4: return lake.wetNights[g];
            case 5: return valley.foes[g];
            default: throw new NoSuchElementException("no such thing of a guest");
        }
    }

    public int now(int what) {
        switch (what) {
            case 0: return lake.day;
            case 1: return lake.level;
            case 2: return lake.wheelAt;
            case 3: return lake.mills;
            case 4: return lake.wetRooms();
            case 5: return lake.letRooms();
            case 6: return lake.broughtInAll();
            default: return NONE;
        }
    }

    public int take(int g, int r, int n) {
        if (!isGuest(g) || !isRoom(r) || !isWithin(n, 1, MOST_NIGHTS)) {
            return NONE;
        }
        int why = lake.whyNotTake(g, r);
        if (why == 0) {
            history.keep(lake);
            lake.moveIn(g, r, n);
        }
        return why;
    }

    public int leave(int g) {
        if (!isGuest(g)) {
            return NONE;
        }
        int why = lake.whyNotLeave(g);
        if (why == 0) {
            history.keep(lake);
            lake.moveOut(g);
        }
        return why;
    }

    public int wheel(int n) {
        if (!isWithin(n, 0, TOP_WHEEL)) {
            return NONE;
        }
        int why = lake.whyNotTurn(n);
        if (why == 0) {
            history.keep(lake);
            lake.wheelAt = n;
        }
        return why;
    }

    public int days(int n) {
        if (!isWithin(n, 1, MOST_DAYS_AT_ONCE)) {
            return NONE;
        }
        if (lake.daysLeft() > 0) {
            history.keep(lake);
        }
        return lake.passDays(n);
    }

    public int undo() {
        return history.giveBack(lake);
    }

    public int level(int n) {
        if (!isWithin(n, 0, MOST_DAYS_AT_ONCE) || n > lake.daysLeft()) {
            return NONE;
        }
        int level = lake.level;
        for (int i = 0; i < n; i++) {
            level = valley.levelBehind(lake.day + i, level, lake.wheelAt);
        }
        return level;
    }

    public int dry(int r, int k) {
        if (!isRoom(r) || !isWithin(k, 1, MOST_DAYS_AT_ONCE)) {
            return NONE;
        }
        int dry = 0;
        int level = lake.level;
        for (int i = 0; i < k && i < lake.daysLeft(); i++) {
            level = valley.levelBehind(lake.day + i, level, lake.wheelAt);
            if (level <= valley.foot[r]) {
                dry++;
            }
        }
        return dry;
    }

    public int wets(int r) {
        if (!isRoom(r)) {
            return NONE;
        }
        int level = lake.level;
        for (int i = 0; i <= MOST_DAYS_AT_ONCE && i <= lake.daysLeft(); i++) {
            if (level > valley.foot[r]) {
                return i;
            }
            level = valley.levelBehind(lake.day + i, level, lake.wheelAt);
        }
        return NONE;
    }

    public int stays() {
        boolean asTold = staysFound.readFrom(tape, valley);
        tape.empty();
        return asTold ? staysFound.find(lake) : NONE;
    }

    public int stayAt(int k) {
        return staysFound.roomOf(k);
    }

    public int plan(int r, int k) {
        if (!isRoom(r) || !isWithin(k, 1, Plan.MOST) || k > lake.daysLeft()) {
            return NONE;
        }
        return planFound.find(lake, r, k);
    }

    public int planAt(int i) {
        return planFound.wheelAhead(i);
    }

    public int round() {
        return boat.find(valley, lake.letHouses());
    }

    public int roundAt(int i) {
        return boat.houseAt(i);
    }

    public int marks() {
        int levels = marksHeard.readFrom(tape, valley);
        tape.empty();
        return levels;
    }

    public int lowest() {
        return marksHeard.least;
    }

    public int highest() {
        return marksHeard.greatest;
    }

    public int bell() {
        return marksHeard.bellRoom;
    }

    public int visits(int g) {
        return isGuest(g) ? lake.withinReachOf(g) : NONE;
    }

    public int quiet(int g) {
        return isGuest(g) ? lake.quietFor(g) : NONE;
    }

    public int quarrels() {
        return lake.foesUnderOneRoof();
    }

    public int brings(int n) {
        if (!isWithin(n, 1, MOST_DAYS_AT_ONCE)) {
            return NONE;
        }
        trial.copyFrom(lake);
        trial.passDays(n);
        return trial.broughtInAll() - lake.broughtInAll();
    }

    public int bill(int g) {
        if (!isGuest(g)) {
            return NONE;
        }
        int room = lake.roomOf[g];
        billText.setLength(0);
        addName(valley.names[Valley.FIRST_GUEST + g]);
        if (room == NONE) {
            billText.append(" ashore");
        } else {
            billText.append(" in ");
            addName(valley.names[Valley.FIRST_ROOM + room]);
            billText.append(" for ").append(lake.nights[g]);
        }
        billText.append(" owns ").append(lake.purse[g]);
        return billText.length();
    }

    public int byteAt(int i) {
        return i >= 0 && i < billText.length() ? billText.charAt(i) : NONE;
    }

    public int drawn(int n, int seed) {
        if (!isWithin(n, 1, MOST_DAYS_AT_ONCE)) {
            return NONE;
        }
        if (lake.daysLeft() > 0) {
            history.keep(lake);
        }
        return lake.passDrawnDays(n, seed);
    }

    public int odds(int r, int n, int seed) {
        if (!isRoom(r) || !isWithin(n, 1, 30)) {
            return NONE;
        }
        int dry = 0;
        for (int i = 0; i < n; i++) {
            trial.copyFrom(lake);
            trial.passDrawnDays(ODDS_DAYS, seed + i);
            if (trial.depthIn(r) == 0) {
                dry++;
            }
        }
        return dry;
    }

    public int book(int lives) {
        if (lives != 0 && lives != 1) {
            return ANOTHER_LIVES;
        }
        bookRead.readFrom(tape, valley);
        closeText();
        if (latestFault != 0) {
            return -2 - tape.faultPlace();
        }
        if (lives == 0) {
            trial.copyFrom(lake);
            return bookRead.live(trial);
        }
        history.keep(lake);
        return bookRead.live(lake);
    }

    public int told(int what) {
        return bookRead.verdict(what);
    }

    public int sentence() {
        draftSentence.readFrom(tape, valley);
        closeText();
        if (latestFault != 0) {
            return -1 - tape.faultPlace();
        }
        sentence.copyFrom(draftSentence);
        return sentence.ones;
    }

    public int said(int k) {
        if (!sentence.isThere()) {
            return NONE;
        }
        int rooms = sentence.roomsSaidOf(lake);
        return k == NONE ? Integer.bitCount(rooms) : placeOfBit(rooms, k);
    }

    public boolean image(int k) {
        if (!isWithin(k, 0, IMAGES - 1)) {
            return false;
        }
        images[k].keep(valley, lake, sentence);
        return true;
    }

    public boolean restore(int k) {
        if (!isWithin(k, 0, IMAGES - 1) || !images[k].isKept) {
            return false;
        }
        images[k].giveBack(valley, lake, sentence);
        history.forget();
        return true;
    }

    public int count(int what) {
        switch (what) {
            case 0: return valley.houses;
            case 1: return valley.rooms;
            case 2: return valley.guests;
            case 3: return valley.every;
            case 4: return valley.rise;
            case 5: return valley.millLevel;
            case 6: return valley.storm;
            case 7: return tape.size();
            default: return NONE;
        }
    }

    private boolean isRoom(int r) {
        return r >= 0 && r < valley.rooms;
    }

    private boolean isGuest(int g) {
        return g >= 0 && g < valley.guests;
    }

    private void closeText() {
        latestFault = tape.faultKind();
        tape.empty();
    }

    private void addName(long name) {
        for (int shift = Tape.NAME_BITS - Tape.LETTER_BITS; shift >= 0; shift -= Tape.LETTER_BITS) {
            int letter = (int) (name >>> shift) & Tape.LETTER_MASK;
            if (letter > 0) {
                billText.append((char) ('a' - 1 + letter));
            }
        }
    }

    private static boolean isWithin(int n, int least, int most) {
        return n >= least && n <= most;
    }

    private static int placeOfBit(int bits, int k) {
        int ahead = 0;
        for (int i = 0; i < Valley.MOST_ROOMS; i++) {
            if ((bits >> i & 1) == 1) {
                if (ahead == k) {
                    return i;
                }
                ahead++;
            }
        }
        return NONE;
    }

    /** The bytes that came, and how they are read TOKEN by TOKEN up to the first FAULT. */
    private static final class Tape {
        static final int MOST = 940;
        static final int LETTER_BITS = 5;
        static final int LETTER_MASK = 31;
        static final int NAME_BITS = 35;

        static final int LAKE = 0;
        static final int RAIN = 1;
        static final int MILL = 2;
        static final int STORM = 3;
        static final int HOUSE = 4;
        static final int ROOM = 5;
        static final int GUEST = 6;
        static final int QUARREL = 7;
        static final int SLEEPS = 8;
        static final int TAKES = 9;
        static final int LEAVES = 10;
        static final int WHEEL = 11;
        static final int DAY = 12;
        static final int OR = 13;
        static final int AND = 14;
        static final int NOT = 15;
        static final int WET = 16;
        static final int LET = 17;
        static final int IN = 18;
        static final int HAS = 19;
        static final int FOOT = 20;
        static final int PRICE = 21;
        static final int DEPTH = 22;
        static final int NUMBER = 23;

        // In the order of the constants above, for a word's constant is its place here.
        private static final String KEYWORDS = "lake rain mill storm house room guest quarrel sleeps takes leaves wheel day or and not wet let in has foot price depth number ";
        private static final int FEED_BYTES = 20;
        private static final int MOST_LETTERS = 7;
        private static final int MOST_DIGITS = 3;

        private static final int NO_TOKEN = 0;
        private static final int THE_END = 1;
        private static final int A_WORD = 2;
        private static final int A_NUMBER = 3;
        private static final int A_SIGN = 4;

        private final byte[] bytes = new byte[MOST];
        private int length;
        private int mostOfText;
        private int place;
        private int behind;
        private int sort;
        private int keyword;
        private int value;
        private long word;
        private int faultKind;
        private int faultPlace;

        boolean hasRoomForFeed() {
            return length + FEED_BYTES <= MOST;
        }

        void add(int four) {
            for (int shift = 24; shift >= 0 && length < MOST; shift -= 8) {
                bytes[length] = (byte) (four >>> shift);
                length++;
            }
        }

        int size() {
            return length;
        }

        boolean cutTo(int n) {
            if (n < 0 || n > length) {
                return false;
            }
            length = n;
            return true;
        }

        void empty() {
            length = 0;
        }

        int unsignedAt(int i) {
            return i >= 0 && i < length ? bytes[i] & 255 : NONE;
        }

        void open(int most) {
            mostOfText = most;
            place = 0;
            behind = 0;
            faultKind = 0;
            faultPlace = 0;
        }

        /** The FAULT of the TOKEN that is read; false, so that who reads can answer with it. */
        boolean refuse(int kind) {
            faultKind = kind;
            faultPlace = place;
            return false;
        }

        int faultKind() {
            return faultKind;
        }

        int faultPlace() {
            return faultPlace;
        }

        boolean isEnd() {
            return sort == THE_END;
        }

        boolean isName() {
            return sort == A_WORD && keyword == NONE;
        }

        boolean isNumber() {
            return sort == A_NUMBER;
        }

        boolean isSign(char sign) {
            return sort == A_SIGN && value == sign;
        }

        int keyword() {
            return keyword;
        }

        int value() {
            return value;
        }

        long word() {
            return word;
        }

        boolean nextIsSign(char sign) {
            advance();
            return isSign(sign) || refuse(CANT_COME);
        }

        boolean nextIsNumber(int least, int most) {
            advance();
            if (sort != A_NUMBER) {
                return refuse(CANT_COME);
            }
            return isWithin(value, least, most) || refuse(NOT_IN_RANGE);
        }

        void advance() {
            keyword = NONE;
            while (behind < length && isBlank(bytes[behind])) {
                behind++;
            }
            place = behind;
            if (length > mostOfText && place >= mostOfText) {
                place = mostOfText;
                sort = NO_TOKEN;
            } else if (place >= length) {
                sort = THE_END;
            } else if (isLetter(bytes[place]) || isDigit(bytes[place])) {
                readRun();
                keyword = sort == A_WORD ? keywordRead() : NONE;
            } else {
                value = bytes[place];
                sort = isSignByte(value) ? A_SIGN : NO_TOKEN;
                behind++;
            }
        }

        private void readRun() {
            int letters = 0;
            int digits = 0;
            word = 0;
            value = 0;
            while (behind < length && (isLetter(bytes[behind]) || isDigit(bytes[behind]))) {
                int b = bytes[behind];
                if (isLetter(b)) {
                    letters++;
                    word = word << LETTER_BITS | (b - 'a' + 1);
                } else {
                    digits++;
                    value = value * 10 + (b - '0');
                }
                behind++;
            }
            sort = NO_TOKEN;
            if (digits == 0 && letters <= MOST_LETTERS) {
                sort = A_WORD;
            } else if (letters == 0 && digits <= MOST_DIGITS) {
                sort = A_NUMBER;
            }
        }

        private int keywordRead() {
            int which = 0;
            int at = place;
            boolean same = true;
            for (int i = 0; i < KEYWORDS.length(); i++) {
                char c = KEYWORDS.charAt(i);
                if (c == ' ') {
                    if (same && at == behind) {
                        return which;
                    }
                    which++;
                    at = place;
                    same = true;
                } else if (same && at < behind && bytes[at] == c) {
                    at++;
                } else {
                    same = false;
                }
            }
            return NONE;
        }

        private static boolean isBlank(int b) {
            return b == 32 || b == 10;
        }

        private static boolean isLetter(int b) {
            return b >= 'a' && b <= 'z';
        }

        private static boolean isDigit(int b) {
            return b >= '0' && b <= '9';
        }

        private static boolean isSignByte(int b) {
            return b == ';' || b == '<' || b == '=' || b == '>' || b == '(' || b == ')';
        }
    }

    /** What a VALLEY's text told; nothing in it changes from DAY to DAY. */
    private static final class Valley {
        static final int MOST_HOUSES = 5;
        static final int MOST_ROOMS = 8;
        static final int MOST_GUESTS = 6;
        static final int FIRST_HOUSE = 0;
        static final int FIRST_ROOM = FIRST_HOUSE + MOST_HOUSES;
        static final int FIRST_GUEST = FIRST_ROOM + MOST_ROOMS;

        private static final int MOST_BYTES = 900;
        private static final int MOST_NAMES = FIRST_GUEST + MOST_GUESTS;

        int firstLevel;
        int every;
        int rise;
        int millLevel;
        int storm;
        int houses;
        int rooms;
        int guests;
        private int toldOnce;
        final long[] names = new long[MOST_NAMES];
        final int[] x = new int[MOST_HOUSES];
        final int[] y = new int[MOST_HOUSES];
        final int[] houseOf = new int[MOST_ROOMS];
        final int[] foot = new int[MOST_ROOMS];
        final int[] price = new int[MOST_ROOMS];
        final int[] firstPurse = new int[MOST_GUESTS];
        final int[] breath = new int[MOST_GUESTS];
        final int[] foes = new int[MOST_GUESTS];
        final int[] sleepsIn = new int[MOST_GUESTS];
        final int[] sleepsFor = new int[MOST_GUESTS];

        Valley() {
            clear();
        }

        void copyFrom(Valley other) {
            firstLevel = other.firstLevel;
            every = other.every;
            rise = other.rise;
            millLevel = other.millLevel;
            storm = other.storm;
            houses = other.houses;
            rooms = other.rooms;
            guests = other.guests;
            System.arraycopy(other.names, 0, names, 0, MOST_NAMES);
            System.arraycopy(other.x, 0, x, 0, MOST_HOUSES);
            System.arraycopy(other.y, 0, y, 0, MOST_HOUSES);
            System.arraycopy(other.houseOf, 0, houseOf, 0, MOST_ROOMS);
            System.arraycopy(other.foot, 0, foot, 0, MOST_ROOMS);
            System.arraycopy(other.price, 0, price, 0, MOST_ROOMS);
            System.arraycopy(other.firstPurse, 0, firstPurse, 0, MOST_GUESTS);
            System.arraycopy(other.breath, 0, breath, 0, MOST_GUESTS);
            System.arraycopy(other.foes, 0, foes, 0, MOST_GUESTS);
            System.arraycopy(other.sleepsIn, 0, sleepsIn, 0, MOST_GUESTS);
            System.arraycopy(other.sleepsFor, 0, sleepsFor, 0, MOST_GUESTS);
        }

        /** How many LINES; NONE by a FAULT, which the tape knows. */
        int readFrom(Tape tape) {
            clear();
            tape.open(MOST_BYTES);
            for (int lines = 0; lines <= MOST_BYTES; lines++) {
                tape.advance();
                if (tape.isEnd()) {
                    return lines;
                }
                if (!readLine(tape) || !tape.nextIsSign(';')) {
                    return NONE;
                }
            }
            return NONE;
        }

        int levelBehind(int day, int level, int wheelAt) {
            int next = level - wheelAt;
            if (every > 0 && (day + 1) % every == 0) {
                next += rise;
            }
            return Math.max(0, Math.min(TOP_LEVEL, next));
        }

        int millsGain(int level, int wheelAt) {
            return level >= millLevel ? wheelAt : 0;
        }

        int dryRoomsAt(int level) {
            int bits = 0;
            for (int r = 0; r < rooms; r++) {
                if (level <= foot[r]) {
                    bits |= 1 << r;
                }
            }
            return bits;
        }

        int allRooms() {
            return (1 << rooms) - 1;
        }

        boolean areFoes(int g, int other) {
            return (foes[g] >> other & 1) == 1;
        }

        /** The number of the HOUSE whose NAME is read; NONE by a FAULT. */
        int houseRead(Tape tape) {
            return numberRead(tape, FIRST_HOUSE, houses);
        }

        int roomRead(Tape tape) {
            return numberRead(tape, FIRST_ROOM, rooms);
        }

        int guestRead(Tape tape) {
            return numberRead(tape, FIRST_GUEST, guests);
        }

        private int numberRead(Tape tape, int first, int told) {
            if (!tape.isName()) {
                tape.refuse(CANT_COME);
                return NONE;
            }
            for (int i = 0; i < told; i++) {
                if (names[first + i] == tape.word()) {
                    return i;
                }
            }
            tape.refuse(WRONG_NAME);
            return NONE;
        }

        private void clear() {
            firstLevel = 20;
            every = 7;
            rise = 3;
            millLevel = 15;
            storm = 0;
            houses = 0;
            rooms = 0;
            guests = 0;
            toldOnce = 0;
            for (int i = 0; i < MOST_NAMES; i++) {
                names[i] = 0;
            }
            for (int g = 0; g < MOST_GUESTS; g++) {
                foes[g] = 0;
                sleepsIn[g] = NONE;
                sleepsFor[g] = 0;
            }
        }

        private boolean readLine(Tape tape) {
            switch (tape.keyword()) {
                case Tape.LAKE: return isFirst(tape) && readLake(tape);
                case Tape.RAIN: return isFirst(tape) && readRain(tape);
                case Tape.MILL: return isFirst(tape) && readMill(tape);
                case Tape.STORM: return isFirst(tape) && readStorm(tape);
                case Tape.HOUSE: return readHouse(tape);
                case Tape.ROOM: return readRoom(tape);
                case Tape.GUEST: return readGuest(tape);
                case Tape.QUARREL: return readQuarrel(tape);
                case Tape.SLEEPS: return readSleeps(tape);
                default: return tape.refuse(CANT_COME);
            }
        }

        private boolean isFirst(Tape tape) {
            int bit = 1 << tape.keyword();
            if ((toldOnce & bit) != 0) {
                return tape.refuse(WRONG_NAME);
            }
            toldOnce |= bit;
            return true;
        }

        private boolean readLake(Tape tape) {
            if (!tape.nextIsNumber(0, TOP_LEVEL)) {
                return false;
            }
            firstLevel = tape.value();
            return true;
        }

        private boolean readRain(Tape tape) {
            if (!tape.nextIsNumber(1, 30)) {
                return false;
            }
            every = tape.value();
            if (!tape.nextIsNumber(0, 9)) {
                return false;
            }
            rise = tape.value();
            return true;
        }

        private boolean readMill(Tape tape) {
            if (!tape.nextIsNumber(0, TOP_LEVEL)) {
                return false;
            }
            millLevel = tape.value();
            return true;
        }

        private boolean readStorm(Tape tape) {
            if (!tape.nextIsNumber(0, 12)) {
                return false;
            }
            storm = tape.value();
            return true;
        }

        private boolean readHouse(Tape tape) {
            if (houses >= MOST_HOUSES) {
                return tape.refuse(TOO_MANY);
            }
            if (!readNewName(tape, FIRST_HOUSE + houses) || !tape.nextIsNumber(0, 20)) {
                return false;
            }
            x[houses] = tape.value();
            if (!tape.nextIsNumber(0, 20)) {
                return false;
            }
            y[houses] = tape.value();
            houses++;
            return true;
        }

        private boolean readRoom(Tape tape) {
            if (rooms >= MOST_ROOMS) {
                return tape.refuse(TOO_MANY);
            }
            if (!readNewName(tape, FIRST_ROOM + rooms)) {
                return false;
            }
            tape.advance();
            houseOf[rooms] = houseRead(tape);
            if (houseOf[rooms] == NONE || !tape.nextIsNumber(0, TOP_LEVEL)) {
                return false;
            }
            foot[rooms] = tape.value();
            if (!tape.nextIsNumber(1, 30)) {
                return false;
            }
            price[rooms] = tape.value();
            rooms++;
            return true;
        }

        private boolean readGuest(Tape tape) {
            if (guests >= MOST_GUESTS) {
                return tape.refuse(TOO_MANY);
            }
            if (!readNewName(tape, FIRST_GUEST + guests) || !tape.nextIsNumber(0, 99)) {
                return false;
            }
            firstPurse[guests] = tape.value();
            if (!tape.nextIsNumber(0, 20)) {
                return false;
            }
            breath[guests] = tape.value();
            guests++;
            return true;
        }

        private boolean readNewName(Tape tape, int slot) {
            tape.advance();
            if (!tape.isName()) {
                return tape.refuse(CANT_COME);
            }
            for (int i = 0; i < MOST_NAMES; i++) {
                if (names[i] == tape.word()) {
                    return tape.refuse(WRONG_NAME);
                }
            }
            names[slot] = tape.word();
            return true;
        }

        private boolean readQuarrel(Tape tape) {
            tape.advance();
            int one = guestRead(tape);
            if (one == NONE) {
                return false;
            }
            tape.advance();
            int other = guestRead(tape);
            if (other == NONE) {
                return false;
            }
            if (one == other || areFoes(one, other)) {
                return tape.refuse(WRONG_NAME);
            }
            foes[one] |= 1 << other;
            foes[other] |= 1 << one;
            return true;
        }

        private boolean readSleeps(Tape tape) {
            tape.advance();
            int guest = guestRead(tape);
            if (guest == NONE) {
                return false;
            }
            if (sleepsIn[guest] != NONE) {
                return tape.refuse(WRONG_NAME);
            }
            tape.advance();
            int room = roomRead(tape);
            if (room == NONE) {
                return false;
            }
            if (isSleptIn(room)) {
                return tape.refuse(WRONG_NAME);
            }
            if (!tape.nextIsNumber(1, MOST_NIGHTS)) {
                return false;
            }
            sleepsIn[guest] = room;
            sleepsFor[guest] = tape.value();
            return true;
        }

        private boolean isSleptIn(int room) {
            for (int g = 0; g < guests; g++) {
                if (sleepsIn[g] == room) {
                    return true;
                }
            }
            return false;
        }
    }

    /** All that changes from DAY to DAY and by what is done. */
    private static final class Lake {
        final Valley valley;
        int day;
        int level;
        int wheelAt;
        int mills;
        final int[] roomOf = new int[Valley.MOST_GUESTS];
        final int[] nights = new int[Valley.MOST_GUESTS];
        final int[] purse = new int[Valley.MOST_GUESTS];
        final int[] wetNights = new int[Valley.MOST_GUESTS];
        final int[] brought = new int[Valley.MOST_ROOMS];
        private int seed;

        Lake(Valley valley) {
            this.valley = valley;
            begin();
        }

        void begin() {
            day = 0;
            level = valley.firstLevel;
            wheelAt = 1;
            mills = 0;
            for (int g = 0; g < Valley.MOST_GUESTS; g++) {
                roomOf[g] = valley.sleepsIn[g];
                nights[g] = valley.sleepsFor[g];
                purse[g] = valley.firstPurse[g];
                wetNights[g] = 0;
            }
            for (int r = 0; r < Valley.MOST_ROOMS; r++) {
                brought[r] = 0;
            }
        }

        void copyFrom(Lake other) {
            day = other.day;
            level = other.level;
            wheelAt = other.wheelAt;
            mills = other.mills;
            System.arraycopy(other.roomOf, 0, roomOf, 0, Valley.MOST_GUESTS);
            System.arraycopy(other.nights, 0, nights, 0, Valley.MOST_GUESTS);
            System.arraycopy(other.purse, 0, purse, 0, Valley.MOST_GUESTS);
            System.arraycopy(other.wetNights, 0, wetNights, 0, Valley.MOST_GUESTS);
            System.arraycopy(other.brought, 0, brought, 0, Valley.MOST_ROOMS);
        }

        int daysLeft() {
            return LAST_DAY - day;
        }

        int depthIn(int r) {
            return Math.max(0, level - valley.foot[r]);
        }

        int wetRooms() {
            return valley.allRooms() & ~valley.dryRoomsAt(level);
        }

        int letRooms() {
            int bits = 0;
            for (int g = 0; g < valley.guests; g++) {
                bits |= roomBitOf(g);
            }
            return bits;
        }

        int letHouses() {
            int bits = 0;
            for (int g = 0; g < valley.guests; g++) {
                if (roomOf[g] != NONE) {
                    bits |= 1 << valley.houseOf[roomOf[g]];
                }
            }
            return bits;
        }

        int roomBitOf(int g) {
            return roomOf[g] == NONE ? 0 : 1 << roomOf[g];
        }

        int whoHas(int r) {
            for (int g = 0; g < valley.guests; g++) {
                if (roomOf[g] == r) {
                    return g;
                }
            }
            return NONE;
        }

        int broughtInAll() {
            int sum = 0;
            for (int r = 0; r < valley.rooms; r++) {
                sum += brought[r];
            }
            return sum;
        }

        int whyNotTake(int g, int r) {
            if (roomOf[g] != NONE) {
                return 1;
            }
            if (whoHas(r) != NONE) {
                return 2;
            }
            return depthIn(r) > valley.breath[g] ? 3 : 0;
        }

        int whyNotLeave(int g) {
            return roomOf[g] == NONE ? 1 : 0;
        }

        int whyNotTurn(int n) {
            return wheelAt == n ? 1 : 0;
        }

        void moveIn(int g, int r, int n) {
            roomOf[g] = r;
            nights[g] = n;
        }

        void moveOut(int g) {
            roomOf[g] = NONE;
            nights[g] = 0;
        }

        int passDays(int n) {
            int gone = Math.min(n, daysLeft());
            for (int i = 0; i < gone; i++) {
                passDay();
            }
            return gone;
        }

        int passDrawnDays(int n, int from) {
            seed = from;
            int gone = Math.min(n, daysLeft());
            for (int i = 0; i < gone; i++) {
                for (int g = 0; g < valley.guests; g++) {
                    drawFor(g);
                }
                if (draw(12) < valley.storm) {
                    level = Math.min(TOP_LEVEL, level + 4);
                }
                passDay();
            }
            return gone;
        }

        /** Whom g can visit, as bits. */
        int withinReachOf(int g) {
            int bits = 0;
            for (int other = 0; other < valley.guests; other++) {
                int room = roomOf[other];
                if (other != g && room != NONE && depthIn(room) <= valley.breath[g]) {
                    bits |= 1 << other;
                }
            }
            return bits;
        }

        int quietFor(int g) {
            int bits = 0;
            for (int r = 0; r < valley.rooms; r++) {
                int who = whoHas(r);
                boolean isFree = who == NONE || who == g;
                if (isFree && depthIn(r) <= valley.breath[g] && !hasFoeIn(valley.houseOf[r], g)) {
                    bits |= 1 << r;
                }
            }
            return bits;
        }

        int foesUnderOneRoof() {
            int pairs = 0;
            for (int g = 0; g < valley.guests; g++) {
                for (int other = g + 1; other < valley.guests; other++) {
                    if (valley.areFoes(g, other) && sleepInOneHouse(g, other)) {
                        pairs++;
                    }
                }
            }
            return pairs;
        }

        private boolean sleepInOneHouse(int g, int other) {
            return roomOf[g] != NONE && roomOf[other] != NONE
                    && valley.houseOf[roomOf[g]] == valley.houseOf[roomOf[other]];
        }

        private boolean hasFoeIn(int house, int g) {
            for (int other = 0; other < valley.guests; other++) {
                int room = roomOf[other];
                if (room != NONE && valley.houseOf[room] == house && valley.areFoes(g, other)) {
                    return true;
                }
            }
            return false;
        }

        private void passDay() {
            mills += valley.millsGain(level, wheelAt);
            level = valley.levelBehind(day, level, wheelAt);
            for (int g = 0; g < valley.guests; g++) {
                if (roomOf[g] != NONE) {
                    passNight(g, roomOf[g]);
                }
            }
            day++;
        }

        private void passNight(int g, int room) {
            int depth = depthIn(room);
            int price = valley.price[room];
            if (depth > valley.breath[g] || (depth == 0 && purse[g] < price)) {
                moveOut(g);
                return;
            }
            if (depth > 0) {
                wetNights[g]++;
            } else {
                purse[g] -= price;
                brought[room] += price;
            }
            nights[g]--;
            if (nights[g] <= 0) {
                moveOut(g);
            }
        }

        private void drawFor(int g) {
            int lot = draw(8);
            if (lot == 0) {
                moveOut(g);
            } else if (lot == 1 && valley.rooms > 0) {
                int room = draw(valley.rooms);
                if (whyNotTake(g, room) == 0) {
                    moveIn(g, room, 3);
                }
            }
        }

        private int draw(int n) {
            seed = seed * 1103515245 + 12345;
            return n > 0 ? (seed >>> 8) % n : 0;
        }
    }

    /** How all was ahead of the latest acts, in a ring. */
    private static final class History {
        private static final int MOST = 8;

        private final Lake[] ring = new Lake[MOST];
        private int next;
        private int kept;

        History(Valley valley) {
            for (int i = 0; i < MOST; i++) {
                ring[i] = new Lake(valley);
            }
        }

        void keep(Lake lake) {
            ring[next].copyFrom(lake);
            next = (next + 1) % MOST;
            kept = Math.min(MOST, kept + 1);
        }

        /** How many more are kept; NONE if there was none. */
        int giveBack(Lake lake) {
            if (kept == 0) {
                return NONE;
            }
            next = (next + MOST - 1) % MOST;
            kept--;
            lake.copyFrom(ring[next]);
            return kept;
        }

        void forget() {
            kept = 0;
        }
    }

    /** VALLEY, what is so and SENTENCE, kept aside. */
    private static final class Image {
        private final Valley valley = new Valley();
        private final Lake lake = new Lake(valley);
        private final Sentence sentence = new Sentence();
        boolean isKept;

        void keep(Valley fromValley, Lake fromLake, Sentence fromSentence) {
            valley.copyFrom(fromValley);
            lake.copyFrom(fromLake);
            sentence.copyFrom(fromSentence);
            isKept = true;
        }

        void giveBack(Valley toValley, Lake toLake, Sentence toSentence) {
            toValley.copyFrom(valley);
            toLake.copyFrom(lake);
            toSentence.copyFrom(sentence);
        }
    }

    /** The LINES of a BOOK, and what was told of the latest one that was judged. */
    private static final class Book {
        private static final int MOST_BYTES = 400;
        private static final int MOST_LINES = 40;

        private final int[] act = new int[MOST_LINES];
        private final int[] guest = new int[MOST_LINES];
        private final int[] room = new int[MOST_LINES];
        private final int[] number = new int[MOST_LINES];
        private int lines;
        private boolean isJudged;
        private int whyWrong;
        private int right;
        private int dayThen;
        private int levelThen;

        /** Up to the end or to a FAULT, which the tape knows. */
        void readFrom(Tape tape, Valley valley) {
            lines = 0;
            tape.open(MOST_BYTES);
            for (int i = 0; i <= MOST_LINES; i++) {
                tape.advance();
                if (tape.isEnd() || !readLine(tape, valley)) {
                    return;
                }
                number[lines] = tape.value();
                lines++;
                if (!tape.nextIsSign(';')) {
                    return;
                }
            }
        }

        private boolean readLine(Tape tape, Valley valley) {
            int word = tape.keyword();
            boolean isPlain = word == Tape.WHEEL || word == Tape.DAY;
            int who = isPlain ? NONE : valley.guestRead(tape);
            if (!isPlain && who == NONE) {
                return false;
            }
            if (lines >= MOST_LINES) {
                return tape.refuse(TOO_MANY);
            }
            guest[lines] = who;
            act[lines] = word;
            if (!isPlain) {
                return readGuestLine(tape, valley);
            }
            return word == Tape.WHEEL ? tape.nextIsNumber(0, TOP_WHEEL) : tape.nextIsNumber(1, MOST_DAYS_AT_ONCE);
        }

        private boolean readGuestLine(Tape tape, Valley valley) {
            tape.advance();
            act[lines] = tape.keyword();
            if (act[lines] == Tape.LEAVES) {
                return true;
            }
            if (act[lines] != Tape.TAKES) {
                return tape.refuse(CANT_COME);
            }
            tape.advance();
            room[lines] = valley.roomRead(tape);
            return room[lines] != NONE && tape.nextIsNumber(1, MOST_NIGHTS);
        }

        /** Lived as far as no LINE is WRONG: the LINE that is, or NONE. */
        int live(Lake lake) {
            whyWrong = 0;
            for (right = 0; right < lines; right++) {
                whyWrong = liveLine(lake, right);
                if (whyWrong != 0) {
                    break;
                }
            }
            isJudged = true;
            dayThen = lake.day;
            levelThen = lake.level;
            return whyWrong == 0 ? NONE : right;
        }

        /** 0, or why the LINE is WRONG, and then nothing was done. */
        private int liveLine(Lake lake, int i) {
            switch (act[i]) {
                case Tape.TAKES: return liveTaking(lake, i);
                case Tape.LEAVES: return liveLeaving(lake, i);
                case Tape.WHEEL: return liveTurning(lake, i);
                default: break;
            }
            if (number[i] > lake.daysLeft()) {
                return 31;
            }
            lake.passDays(number[i]);
            return 0;
        }

        private int liveTaking(Lake lake, int i) {
            int why = lake.whyNotTake(guest[i], room[i]);
            if (why == 0) {
                lake.moveIn(guest[i], room[i], number[i]);
            }
            return why;
        }

        private int liveLeaving(Lake lake, int i) {
            if (lake.whyNotLeave(guest[i]) != 0) {
                return 11;
            }
            lake.moveOut(guest[i]);
            return 0;
        }

        private int liveTurning(Lake lake, int i) {
            if (lake.whyNotTurn(number[i]) != 0) {
                return 21;
            }
            lake.wheelAt = number[i];
            return 0;
        }

        int verdict(int what) {
            if (!isJudged) {
                return NONE;
            }
            switch (what) {
                case 0: return whyWrong;
                case 1: return right;
                case 2: return dayThen;
                case 3: return levelThen;
                default: return NONE;
            }
        }
    }

    /** A SENTENCE as steps, each behind what it is about; a step's worth is the ROOMS it is true of, as bits. */
    private static final class Sentence {
        private static final int MOST_BYTES = 200;
        private static final int MOST_ONES = 20;
        private static final int MOST_WITHIN = 8;
        private static final int MOST_STEPS = 2 * MOST_ONES;

        int ones;
        private int size;
        private final int[] step = new int[MOST_STEPS];
        private final int[] sign = new int[MOST_STEPS];
        private final int[] number = new int[MOST_STEPS];
        private final int[] worth = new int[MOST_STEPS];

        boolean isThere() {
            return size > 0;
        }

        void forget() {
            size = 0;
            ones = 0;
        }

        void copyFrom(Sentence other) {
            ones = other.ones;
            size = other.size;
            System.arraycopy(other.step, 0, step, 0, MOST_STEPS);
            System.arraycopy(other.sign, 0, sign, 0, MOST_STEPS);
            System.arraycopy(other.number, 0, number, 0, MOST_STEPS);
        }

        /** Up to the end or to a FAULT, which the tape knows. */
        void readFrom(Tape tape, Valley valley) {
            forget();
            tape.open(MOST_BYTES);
            tape.advance();
            if (readCond(tape, valley, 1) && !tape.isEnd()) {
                tape.refuse(CANT_COME);
            }
        }

        // Each of these begins at its first TOKEN and ends at the one behind it.
        private boolean readCond(Tape tape, Valley valley, int within) {
            boolean isRead = readAll(tape, valley, within);
            for (int i = 0; i < MOST_ONES && isRead && tape.keyword() == Tape.OR; i++) {
                tape.advance();
                isRead = readAll(tape, valley, within) && add(Tape.OR, 0, 0);
            }
            return isRead;
        }

        private boolean readAll(Tape tape, Valley valley, int within) {
            boolean isRead = readOne(tape, valley, within);
            for (int i = 0; i < MOST_ONES && isRead && tape.keyword() == Tape.AND; i++) {
                tape.advance();
                isRead = readOne(tape, valley, within) && add(Tape.AND, 0, 0);
            }
            return isRead;
        }

        private boolean readOne(Tape tape, Valley valley, int within) {
            int word = tape.keyword();
            boolean isBracket = tape.isSign('(');
            if (!isBracket && !beginsOne(word)) {
                return tape.refuse(CANT_COME);
            }
            if (ones >= MOST_ONES || within > MOST_WITHIN) {
                return tape.refuse(TOO_MANY);
            }
            ones++;
            if (isBracket) {
                return readBracket(tape, valley, within);
            }
            if (word == Tape.NOT) {
                tape.advance();
                return readOne(tape, valley, within + 1) && add(Tape.NOT, 0, 0);
            }
            if (!readPlain(tape, valley, word)) {
                return false;
            }
            tape.advance();
            return true;
        }

        private boolean readBracket(Tape tape, Valley valley, int within) {
            tape.advance();
            if (!readCond(tape, valley, within + 1)) {
                return false;
            }
            if (!tape.isSign(')')) {
                return tape.refuse(CANT_COME);
            }
            tape.advance();
            return true;
        }

        private boolean readPlain(Tape tape, Valley valley, int word) {
            if (word == Tape.WET || word == Tape.LET) {
                return add(word, 0, 0);
            }
            tape.advance();
            if (word == Tape.IN || word == Tape.HAS) {
                int whose = word == Tape.IN ? valley.houseRead(tape) : valley.guestRead(tape);
                return whose != NONE && add(word, 0, whose);
            }
            if (!tape.isSign('<') && !tape.isSign('=') && !tape.isSign('>')) {
                return tape.refuse(CANT_COME);
            }
            int signRead = tape.value();
            tape.advance();
            return tape.isNumber() ? add(word, signRead, tape.value()) : tape.refuse(CANT_COME);
        }

        private static boolean beginsOne(int word) {
            return word >= Tape.NOT && word <= Tape.NUMBER;
        }

        private boolean add(int newStep, int newSign, int newNumber) {
            if (size >= MOST_STEPS) {
                return false;
            }
            step[size] = newStep;
            sign[size] = newSign;
            number[size] = newNumber;
            size++;
            return true;
        }

        int roomsSaidOf(Lake lake) {
            int top = 0;
            for (int i = 0; i < size; i++) {
                if (step[i] == Tape.NOT && top >= 1) {
                    worth[top - 1] = lake.valley.allRooms() & ~worth[top - 1];
                } else if (step[i] == Tape.AND && top >= 2) {
                    top--;
                    worth[top - 1] &= worth[top];
                } else if (step[i] == Tape.OR && top >= 2) {
                    top--;
                    worth[top - 1] |= worth[top];
                } else {
                    worth[top] = plainWorth(lake, i);
                    top++;
                }
            }
            return worth[0];
        }

        private int plainWorth(Lake lake, int i) {
            switch (step[i]) {
                case Tape.WET: return lake.wetRooms();
                case Tape.LET: return lake.letRooms();
                case Tape.HAS: return lake.roomBitOf(number[i]);
                default: return roomsAlike(lake, i);
            }
        }

        private int roomsAlike(Lake lake, int i) {
            int bits = 0;
            for (int r = 0; r < lake.valley.rooms; r++) {
                if (isTrueOf(lake, i, r)) {
                    bits |= 1 << r;
                }
            }
            return bits;
        }

        private boolean isTrueOf(Lake lake, int i, int r) {
            switch (step[i]) {
                case Tape.IN: return lake.valley.houseOf[r] == number[i];
                case Tape.FOOT: return compares(lake.valley.foot[r], i);
                case Tape.PRICE: return compares(lake.valley.price[r], i);
                case Tape.DEPTH: return compares(lake.depthIn(r), i);
                default: return compares(r, i);
            }
        }

        private boolean compares(int n, int i) {
            if (sign[i] == '<') {
                return n < number[i];
            }
            return sign[i] == '>' ? n > number[i] : n == number[i];
        }
    }

    /** Which STAYS can be let so that all are dry. */
    private static final class Stays {
        private static final int MOST = 5;
        private static final int BYTES = 3;

        private final int[] from = new int[MOST];
        private final int[] nights = new int[MOST];
        private final int[] fits = new int[MOST];
        private final int[] tried = new int[MOST];
        private final int[] found = new int[MOST];
        private int stays;
        private int mostLet;

        /** False if the tape is not as told; then what was found last stays. */
        boolean readFrom(Tape tape, Valley valley) {
            int many = tape.size() / BYTES;
            if (tape.size() % BYTES != 0 || !isWithin(many, 1, MOST)) {
                return false;
            }
            for (int k = 0; k < many; k++) {
                boolean isGuest = tape.unsignedAt(BYTES * k) < valley.guests;
                if (!isGuest || !isWithin(tape.unsignedAt(BYTES * k + 2), 1, MOST_NIGHTS)) {
                    return false;
                }
            }
            stays = many;
            for (int k = 0; k < many; k++) {
                from[k] = tape.unsignedAt(BYTES * k + 1);
                nights[k] = tape.unsignedAt(BYTES * k + 2);
            }
            return true;
        }

        int find(Lake lake) {
            findFits(lake);
            mostLet = NONE;
            tryStay(0, 0, lake.valley.rooms);
            return mostLet;
        }

        int roomOf(int k) {
            return k >= 0 && k < stays ? found[k] : NONE;
        }

        private void findFits(Lake lake) {
            int farthest = 0;
            for (int k = 0; k < stays; k++) {
                boolean isInTime = from[k] + nights[k] <= lake.daysLeft();
                fits[k] = isInTime ? lake.valley.allRooms() : 0;
                if (isInTime) {
                    farthest = Math.max(farthest, from[k] + nights[k]);
                }
            }
            int level = lake.level;
            for (int night = 0; night < farthest; night++) {
                level = lake.valley.levelBehind(lake.day + night, level, lake.wheelAt);
                int dryRooms = lake.valley.dryRoomsAt(level);
                for (int k = 0; k < stays; k++) {
                    if (night >= from[k] && night < from[k] + nights[k]) {
                        fits[k] &= dryRooms;
                    }
                }
            }
        }

        // The first of like ones is found first, so that only a better one takes its place.
        private void tryStay(int k, int let, int rooms) {
            if (let + stays - k <= mostLet) {
                return;
            }
            if (k >= stays) {
                mostLet = let;
                System.arraycopy(tried, 0, found, 0, stays);
                return;
            }
            for (int r = 0; r < rooms; r++) {
                if ((fits[k] >> r & 1) == 1 && isFreeFor(k, r)) {
                    tried[k] = r;
                    tryStay(k + 1, let + 1, rooms);
                }
            }
            tried[k] = NONE;
            tryStay(k + 1, let, rooms);
        }

        private boolean isFreeFor(int k, int r) {
            for (int j = 0; j < k; j++) {
                if (tried[j] == r && from[j] < from[k] + nights[k] && from[k] < from[j] + nights[j]) {
                    return false;
                }
            }
            return true;
        }
    }

    /** How the WHEEL is best turned. */
    private static final class Plan {
        static final int MOST = 5;

        private final int[] tried = new int[MOST];
        private final int[] found = new int[MOST];
        private int foundDays;
        private int days;
        private int mostGain;

        /** The most that the mills have more; NONE if the ROOM can't stay dry, and then what was found last stays. */
        int find(Lake lake, int r, int k) {
            days = k;
            mostGain = NONE;
            tryDay(lake, r, 0, lake.level, 0);
            if (mostGain != NONE) {
                foundDays = k;
            }
            return mostGain;
        }

        int wheelAhead(int i) {
            return i >= 0 && i < foundDays ? found[i] : NONE;
        }

        private void tryDay(Lake lake, int r, int i, int level, int gain) {
            if (gain + mostToCome(lake.valley, i, level) <= mostGain) {
                return;
            }
            if (i >= days) {
                mostGain = gain;
                System.arraycopy(tried, 0, found, 0, days);
                return;
            }
            for (int n = 0; n <= TOP_WHEEL; n++) {
                int next = lake.valley.levelBehind(lake.day + i, level, n);
                if (next <= lake.valley.foot[r]) {
                    tried[i] = n;
                    tryDay(lake, r, i + 1, next, gain + lake.valley.millsGain(level, n));
                }
            }
        }

        /** No way to go on from DAY i brings more: nothing where even rain on each DAY leaves the lake too low. */
        private int mostToCome(Valley valley, int i, int level) {
            int daysLeft = days - i;
            boolean canBeHigh = level + valley.rise * (daysLeft - 1) >= valley.millLevel;
            return canBeHigh ? TOP_WHEEL * daysLeft : 0;
        }
    }

    /** The ROUND with the fewest strokes. */
    private static final class Boat {
        private static final int FAR = 1000;

        private final int[] tried = new int[Valley.MOST_HOUSES];
        private final int[] found = new int[Valley.MOST_HOUSES];
        private int houses;
        private int fewest;

        int find(Valley valley, int houseBits) {
            houses = Integer.bitCount(houseBits);
            fewest = FAR;
            tryHouse(valley, houseBits, 0, NONE, 0);
            return fewest;
        }

        int houseAt(int i) {
            return i >= 0 && i < houses ? found[i] : NONE;
        }

        private void tryHouse(Valley valley, int left, int i, int at, int strokes) {
            if (i >= houses) {
                int all = strokes + strokesBetween(valley, at, NONE);
                if (all < fewest) {
                    fewest = all;
                    System.arraycopy(tried, 0, found, 0, houses);
                }
                return;
            }
            for (int h = 0; h < valley.houses; h++) {
                if ((left >> h & 1) == 1) {
                    tried[i] = h;
                    tryHouse(valley, left & ~(1 << h), i + 1, h, strokes + strokesBetween(valley, at, h));
                }
            }
        }

        private static int strokesBetween(Valley valley, int one, int other) {
            return Math.abs(xOf(valley, one) - xOf(valley, other)) + Math.abs(yOf(valley, one) - yOf(valley, other));
        }

        // NONE is the dam.
        private static int xOf(Valley valley, int h) {
            return h == NONE ? 0 : valley.x[h];
        }

        private static int yOf(Valley valley, int h) {
            return h == NONE ? 0 : valley.y[h];
        }
    }

    /** How high the lake can have stood; the BELL is found at once, as the VALLEY may be another later. */
    private static final class Marks {
        private static final int MOST = 8;
        private static final int BYTES = 2;

        int least = NONE;
        int greatest = NONE;
        int bellRoom = NONE;

        /** How many LEVELS; NONE if the tape is not as told. */
        int readFrom(Tape tape, Valley valley) {
            int many = tape.size() / BYTES;
            if (tape.size() % BYTES != 0 || !isWithin(many, 1, MOST)) {
                return NONE;
            }
            int low = 0;
            int high = TOP_LEVEL;
            for (int k = 0; k < many; k++) {
                int room = tape.unsignedAt(BYTES * k);
                int wet = tape.unsignedAt(BYTES * k + 1);
                if (!isWithin(room, 0, valley.rooms - 1) || !isWithin(wet, 0, 1)) {
                    return NONE;
                }
                if (wet == 1) {
                    low = Math.max(low, valley.foot[room] + 1);
                } else {
                    high = Math.min(high, valley.foot[room]);
                }
            }
            if (low > high) {
                return 0;
            }
            least = low;
            greatest = high;
            bellRoom = bestBell(valley);
            return high - low + 1;
        }

        private int bestBell(Valley valley) {
            int best = NONE;
            int fewestLeft = TOP_LEVEL + 2;
            for (int r = 0; r < valley.rooms; r++) {
                int wet = Math.max(0, greatest - Math.max(least - 1, valley.foot[r]));
                int dry = greatest - least + 1 - wet;
                if (Math.max(wet, dry) < fewestLeft) {
                    fewestLeft = Math.max(wet, dry);
                    best = r;
                }
            }
            return best;
        }
    }
}
