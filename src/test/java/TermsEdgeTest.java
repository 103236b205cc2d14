import java.util.function.ToIntFunction;

/** "Terms", sentence by sentence: TOKENS, the bounds of a VALLEY, a BOOK and a SENTENCE, FAULTS and their places. */
public final class TermsEdgeTest {
    private static final String[] WORDS = {"lake", "rain", "mill", "storm", "house", "room", "guest", "quarrel",
        "sleeps", "takes", "leaves", "wheel", "day", "or", "and", "not", "wet", "let", "in", "has", "foot", "price",
        "depth", "number"};

    private static final String BASE = "lake 18;rain 3 4;house tor 2 3;house mole 10 1;room dach tor 20 5;"
            + "room klamm tor 15 2;room keller mole 12 3;room giebel mole 18 9;guest anna 40 5;guest ben 12 0;"
            + "quarrel anna ben;sleeps anna klamm 3;";

    private static final Check c = new Check();

    public static void main(String[] args) {
        c.reads(Document.between("TOKENS of all texts", "==== 2."));
        blanks();
        words();
        numbers();
        signs();
        runs();
        valleyBytes();
        toldOnce();
        houses();
        rooms();
        guests();
        quarrels();
        sleeps();
        names();
        mostOfEach();
        book();
        sentenceBytes();
        conds();
        ones();
        mostOnes();
        firstFault();
        faultPlaces();
        faultKinds();
        c.close("TermsEdgeTest");
    }

    private static DrownedRooms base() {
        DrownedRooms x = Check.in(BASE);
        Check.sentence(x, "number=2");
        return x;
    }

    private static void valleyIs(String text, int lines) {
        DrownedRooms x = base();
        c.due("valley " + text, Check.valley(x, text), lines);
        c.due("fault of valley " + text, x.fault(), 0);
    }

    /** The FAULT is at the second text's first byte, though others come behind it. */
    private static void valleyFails(String ahead, String at, int kind) {
        DrownedRooms x = base();
        String before = Seen.world(x);
        for (String more : more(ahead, at)) {
            c.due("valley " + more, Check.valley(x, more), -1 - ahead.length());
            c.due("fault of valley " + more, x.fault(), kind);
        }
        c.dueText("what is so behind valley " + ahead + at, Seen.world(x), before);
    }

    /** The text alone and, if it does not end with the FAULT, with FAULTS of other kinds behind it. */
    private static String[] more(String ahead, String at) {
        String text = ahead + at;
        if (at.isEmpty() || text.length() > 920) {
            return new String[] {text};
        }
        return new String[] {text, text + " ?", text + " lake 100;", text + " day 61;", text + " or wet)"};
    }

    private static void bookIs(String text, int wrongLine) {
        DrownedRooms x = base();
        c.due("book " + text, Check.book(x, text, 0), wrongLine);
        c.due("fault of book " + text, x.fault(), 0);
    }

    private static void bookFails(String ahead, String at, int kind) {
        for (int lives = 0; lives < 2; lives++) {
            DrownedRooms x = base();
            String before = Seen.world(x);
            for (String more : more(ahead, at)) {
                c.due("book " + more, Check.book(x, more, lives), -2 - ahead.length());
                c.due("fault of book " + more, x.fault(), kind);
            }
            c.dueText("what is so behind book " + ahead + at, Seen.world(x), before);
        }
    }

    private static void sentenceIs(String text, int ones) {
        DrownedRooms x = base();
        c.due("sentence " + text, Check.sentence(x, text), ones);
        c.due("fault of sentence " + text, x.fault(), 0);
    }

    private static void sentenceFails(String ahead, String at, int kind) {
        DrownedRooms x = base();
        String before = Seen.world(x);
        for (String more : more(ahead, at)) {
            c.due("sentence " + more, Check.sentence(x, more), -1 - ahead.length());
            c.due("fault of sentence " + more, x.fault(), kind);
        }
        c.dueText("what is so behind sentence " + ahead + at, Seen.world(x), before);
    }

    private static void said(String text, int... rooms) {
        DrownedRooms x = base();
        Check.sentence(x, text);
        c.due("said(-1) of " + text, x.said(-1), rooms.length);
        for (int k = 0; k < rooms.length; k++) {
            c.due("said(" + k + ") of " + text, x.said(k), rooms[k]);
        }
    }

    /** A NUMBER of a VALLEY between two texts: read at the ends of its range, a FAULT of kind 2 just beyond them. */
    private static void range(String ahead, String behind, int least, int most, ToIntFunction<DrownedRooms> read) {
        for (int n : new int[] {least, least + 1, most - 1, most}) {
            DrownedRooms x = Check.in(ahead + n + behind);
            c.due("fault of " + ahead + n + behind, x.fault(), 0);
            c.due("read of " + ahead + n + behind, read.applyAsInt(x), n);
        }
        valleyFails(ahead, most + 1 + behind, 2);
        valleyFails(ahead, 999 + behind, 2);
        valleyFails(ahead, 1000 + behind, 1);
        if (least > 0) {
            valleyFails(ahead, least - 1 + behind, 2);
        }
    }

    private static String spaces(int n) {
        return " ".repeat(n);
    }

    private static void blanks() {
        c.says("TOKENS of all texts, with blanks (32, 10) between them or not");
        valleyIs("lake 5;mill 6;", 2);
        valleyIs(" \n lake \n 5\n; \n mill\n6 ;\n ", 2);
        bookIs("day 1;day 2;", -1);
        bookIs("\nday\n1\n;\nday\n\n2 ; ", -1);
        sentenceIs("(wet)and(let)or foot<5", 5);
        sentenceIs("\n(\nwet\n)\nand ( let ) or foot < 5 ", 5);
        for (int b : new int[] {0, 8, 9, 11, 12, 13, 31, 33, 127, 128, 138, 160, 255}) {
            String sign = String.valueOf((char) b);
            valleyFails("lake 5", sign + ";", 1);
            bookFails("day 1", sign + ";", 1);
            sentenceFails("wet", sign, 1);
        }
    }

    private static void words() {
        c.says("WORDS: small letters, 1 to 7");
        valleyIs("house a 1 1;", 1);
        valleyIs("house zzzzzzz 1 1;", 1);
        valleyFails("house ", "abcdefgh 1 1;", 1);
        valleyFails("house ", "` 1 1;", 1);
        valleyFails("house ", "{ 1 1;", 1);
        valleyFails("house ", "A 1 1;", 1);
        valleyFails("house ", "Z 1 1;", 1);
        valleyFails("house ", (char) 228 + " 1 1;", 1);
        valleyFails("house a", "B 1 1;", 1);
        valleyFails("house a", "_b 1 1;", 1);
        bookFails("", "abcdefg leaves;", 3);
        bookFails("", "abcdefgh leaves;", 1);
        sentenceFails("in ", "abcdefg", 3);
        sentenceFails("in ", "abcdefgh", 1);
    }

    private static void numbers() {
        c.says("NUMBERS: 1 to 3 digits");
        valleyIs("lake 9;", 1);
        valleyIs("lake 09;", 1);
        valleyIs("lake 009;", 1);
        valleyFails("lake ", "0009;", 1);
        valleyFails("lake ", "999;", 2);
        valleyFails("lake ", "9999;", 1);
        valleyFails("lake ", "4294967301;", 1);
        valleyFails("lake ", "/;", 1);
        valleyFails("lake ", ":;", 1);
        valleyFails("lake ", "-5;", 1);
        valleyFails("lake 5", ":;", 1);
        bookIs("day 001;", -1);
        bookFails("day ", "0001;", 1);
        sentenceIs("foot<000", 1);
        sentenceIs("foot<999", 1);
        sentenceFails("foot<", "0000", 1);
        DrownedRooms x = Check.in("lake 099;");
        c.due("099", x.now(1), 99);
    }

    private static void signs() {
        c.says("; < = > ( ) .");
        sentenceIs("foot<5", 1);
        sentenceIs("foot=5", 1);
        sentenceIs("foot>5", 1);
        sentenceIs("(wet)", 2);
        valleyIs("lake 5;", 1);
        for (char sign : "<=>()".toCharArray()) {
            valleyFails("lake 5", sign + ";", 1);
            bookFails("day 1", sign + ";", 1);
        }
        for (char sign : "!*+,-/:?.[{".toCharArray()) {
            valleyFails("lake 5", sign + ";", 1);
            bookFails("day 1", sign + ";", 1);
            sentenceFails("wet ", sign + " or let", 1);
            sentenceFails("foot ", sign + "5", 1);
        }
        sentenceFails("foot <", "=5", 1);
        sentenceFails("wet", ";", 1);
    }

    private static void runs() {
        c.says("A WORD, NUMBER goes on as long as small letters and digits do");
        valleyFails("", "lake5;", 1);
        valleyFails("lake ", "5a;", 1);
        valleyFails("lake ", "a5;", 1);
        valleyFails("house ", "a1 1 1;", 1);
        valleyFails("house ", "1a 1 1;", 1);
        valleyFails("house a ", "1b1 1;", 1);
        valleyFails("", "lakelak 5;", 1);
        bookFails("", "day1;", 1);
        bookFails("anna ", "leaves1;", 1);
        sentenceFails("foot<", "5or wet", 1);
        sentenceFails("", "notwet", 1);
        sentenceFails("", "wetorlet", 1);
        sentenceFails("not ", "wet1", 1);
        c.says("what is not as told is no TOKEN");
        valleyFails("", "Lake 5;", 1);
        valleyFails("", "#", 1);
        valleyFails("lake 5;", "#", 1);
        bookFails("", "\t", 1);
        sentenceFails("", "&", 1);
    }

    private static void valleyBytes() {
        c.says("A VALLEY is a text of at most 900 bytes");
        valleyIs("lake 5;" + spaces(893), 1);
        valleyIs(spaces(892) + "lake 55;", 1);
        valleyFails("lake 5;" + spaces(893), " ", 1);
        valleyFails("lake 5;" + spaces(893), spaces(40), 1);
        valleyFails(spaces(892) + "lake 5 ;", " ", 1);
        valleyIs(spaces(900), 0);
        valleyFails(spaces(900), " ", 1);
        c.says("{ LINE ; }");
        valleyIs("", 0);
        valleyIs(" ", 0);
        valleyIs("lake 5;rain 1 1;mill 5;storm 5;house a 1 1;", 5);
        valleyFails("", ";", 1);
        valleyFails("lake 5;", ";", 1);
        valleyFails("lake 5", "", 1);
        valleyFails("lake 5;", "lake", 3);
        valleyFails("lake 5 ", "mill 5;", 1);
        valleyFails("", "5;", 1);
        valleyFails("", "boat 5;", 1);
        bookIs("", -1);
        bookFails("", ";", 1);
        bookFails("day 1;", ";", 1);
        bookFails("day 1", "", 1);
        bookFails("day 1 ", "day 1;", 1);
        for (int i = 9; i < WORDS.length; i++) {
            valleyFails("", WORDS[i] + " 5;", 1);
        }
    }

    private static void toldOnce() {
        DrownedRooms without = Check.in("house a 1 1;");
        c.says("LINE: 'lake' LEVEL (0 to 99; once; 20 without)");
        range("lake ", ";", 0, 99, x -> x.now(1));
        valleyFails("lake 5;", "lake 5;", 3);
        valleyFails("lake 5;house a 1 1;", "lake 500;", 3);
        c.due("the LEVEL without", without.now(1), 20);
        c.says("'rain' EVERY RISE (1 to 30; 0 to 9; once; 7 and 3 without)");
        range("rain ", " 1;", 1, 30, x -> x.count(3));
        range("rain 1 ", ";", 0, 9, x -> x.count(4));
        valleyFails("rain 5 5;", "rain 5 5;", 3);
        c.due("EVERY without", without.count(3), 7);
        c.due("RISE without", without.count(4), 3);
        c.says("'mill' N (0 to 99; once; 15 without)");
        range("mill ", ";", 0, 99, x -> x.count(5));
        valleyFails("mill 5;", "mill 5;", 3);
        c.due("mill without", without.count(5), 15);
        c.says("'storm' N (0 to 12; once; 0 without)");
        range("storm ", ";", 0, 12, x -> x.count(6));
        valleyFails("storm 5;", "storm 5;", 3);
        c.due("storm without", without.count(6), 0);
        valleyIs("lake 5;rain 5 5;mill 5;storm 5;", 4);
        valleyIs("storm 5;mill 5;rain 5 5;lake 5;", 4);
        Check.valley(without, "lake 5;rain 6 7;mill 8;storm 9;");
        Check.valley(without, "");
        c.due("the LEVEL without, in the next VALLEY", without.now(1), 20);
        c.due("EVERY without, in the next VALLEY", without.count(3), 7);
        c.due("RISE without, in the next VALLEY", without.count(4), 3);
        c.due("mill without, in the next VALLEY", without.count(5), 15);
        c.due("storm without, in the next VALLEY", without.count(6), 0);
    }

    private static void houses() {
        c.says("'house' NAME X Y (0 to 20 each)");
        String slept = "room r h 99 1;guest g 1 1;sleeps g r 1;";
        range("house h ", " 0;" + slept, 0, 20, x -> x.round() / 2);
        range("house h 0 ", ";" + slept, 0, 20, x -> x.round() / 2);
        valleyFails("house h 1", ";", 1);
        valleyFails("house h 1 1 ", "1;", 1);
        valleyFails("house ", "1 1;", 1);
    }

    private static void rooms() {
        c.says("'room' NAME HOUSE FOOT PRICE (0 to 99; 1 to 30)");
        range("house h 1 1;room r h ", " 1;", 0, 99, x -> x.room(0, 1));
        range("house h 1 1;room r h 1 ", ";", 1, 30, x -> x.room(0, 2));
        valleyFails("house h 1 1;room r ", "1 1;", 1);
        valleyFails("house h 1 1;room r h 1", ";", 1);
        valleyFails("room r ", "h 1 1;house h 1 1;", 3);
    }

    private static void guests() {
        c.says("'guest' NAME PURSE BREATH (0 to 99; 0 to 20)");
        range("guest g ", " 1;", 0, 99, x -> x.guest(0, 0));
        range("guest g 1 ", ";", 0, 20, x -> x.guest(0, 1));
        valleyFails("guest g 1", ";", 1);
    }

    private static void quarrels() {
        c.says("'quarrel' GUEST GUEST (unlike; each two once, in whatever order)");
        String ahead = "guest a 1 1;guest b 1 1;guest d 1 1;";
        valleyFails(ahead + "quarrel a ", "a;", 3);
        valleyFails(ahead + "quarrel a b;quarrel a ", "b;", 3);
        valleyFails(ahead + "quarrel a b;quarrel b ", "a;", 3);
        valleyFails(ahead + "quarrel a b;quarrel a d;quarrel d b;quarrel d ", "a;", 3);
        valleyFails(ahead + "quarrel a", ";", 1);
        valleyFails(ahead + "quarrel a b ", "d;", 1);
        DrownedRooms x = Check.in(ahead + "quarrel a b;quarrel d a;quarrel b d;");
        for (int g = 0; g < 3; g++) {
            c.due("all of three quarrel, " + g, x.guest(g, 5), 7 - (1 << g));
        }
    }

    private static void sleeps() {
        c.says("'sleeps' GUEST ROOM N (each GUEST, each ROOM once; 1 to 30)");
        String ahead = "house h 1 1;room r h 1 1;room s h 1 1;guest a 1 1;guest b 1 1;";
        range(ahead + "sleeps a r ", ";", 1, 30, x -> x.guest(0, 3));
        valleyFails(ahead + "sleeps a r 1;sleeps ", "a s 1;", 3);
        valleyFails(ahead + "sleeps a r 1;sleeps ", "a r 1;", 3);
        valleyFails(ahead + "sleeps a r 1;sleeps b ", "r 1;", 3);
        valleyFails(ahead + "sleeps a r", ";", 1);
        DrownedRooms x = Check.in(ahead + "sleeps b s 2;sleeps a r 1;");
        c.due("both sleep, though it is too deep", x.now(5), 3);
        c.due("b's ROOM", x.guest(1, 2), 1);
        c.due("b's nights", x.guest(1, 3), 2);
    }

    private static void names() {
        c.says("NAME: a WORD, none of those told here, in a BOOK or a SENTENCE; told once");
        for (String word : WORDS) {
            valleyFails("house ", word + " 1 1;", 1);
            valleyFails("house h 1 1;room ", word + " h 1 1;", 1);
            valleyFails("guest ", word + " 1 1;", 1);
            bookFails("anna takes ", word + " 1;", 1);
            sentenceFails("in ", word, 1);
            sentenceFails("has ", word, 1);
            valleyIs("house " + word.substring(1) + "q 1 1;", 1);
            if (word.length() < 7) {
                valleyIs("house " + word + "s 1 1;", 1);
            }
        }
        valleyIs("house lak 1 1;house an 2 2;house o 1 1;house n 1 1;house numbers 1 1;", 5);
        String ahead = "house h 1 1;room r h 1 1;guest g 1 1;";
        for (String name : new String[] {"h", "r", "g"}) {
            valleyFails(ahead + "house ", name + " 1 1;", 3);
            valleyFails(ahead + "room ", name + " h 1 1;", 3);
            valleyFails(ahead + "guest ", name + " 1 1;", 3);
        }
        valleyIs(ahead + "house hh 1 1;room rh h 1 1;guest gh 1 1;", 6);
        valleyFails("house abcdefg 1 1;guest ", "abcdefg 1 1;", 3);
        valleyIs("house abcdefg 1 1;guest bbcdefg 1 1;guest abcdefh 1 1;", 3);
    }

    private static void mostOfEach() {
        c.says("5 HOUSES, 8 ROOMS, 6 GUESTS at most, numbered from 0 each");
        StringBuilder houses = new StringBuilder();
        for (char h = 'a'; h < 'f'; h++) {
            houses.append("house ").append(h).append(' ').append(h - 'a').append(" 0;");
        }
        StringBuilder rooms = new StringBuilder(houses);
        for (char r = 'f'; r < 'n'; r++) {
            rooms.append("room ").append(r).append(' ').append((char) ('a' + (r - 'f') % 5)).append(' ');
            rooms.append(r - 'f').append(" 1;");
        }
        StringBuilder guests = new StringBuilder(rooms);
        for (char g = 'n'; g < 't'; g++) {
            guests.append("guest ").append(g).append(' ').append(g - 'n').append(" 1;");
        }
        valleyIs(houses.toString(), 5);
        valleyFails(houses.toString(), "house z 1 1;", 4);
        valleyFails(houses.toString(), "house", 4);
        valleyIs(rooms.toString(), 13);
        valleyFails(rooms.toString(), "room z a 1 1;", 4);
        valleyIs(guests.toString(), 19);
        valleyFails(guests.toString(), "guest z 1 1;", 4);
        // The NAMES of one sort do not go on in those of the next.
        valleyFails(houses + "room y a 1 1;room z ", "y 1 1;", 3);
        valleyFails(guests + "sleeps n ", "n 1;", 3);
        valleyFails(guests + "sleeps o ", "n 1;", 3);
        valleyFails(guests + "sleeps ", "m n 1;", 3);
        valleyFails(guests + "quarrel ", "nobody n;", 3);
        DrownedRooms x = Check.in(guests.toString());
        for (int r = 0; r < 8; r++) {
            c.due("HOUSE of ROOM " + r, x.room(r, 0), r % 5);
            c.due("FOOT of ROOM " + r, x.room(r, 1), r);
        }
        for (int g = 0; g < 6; g++) {
            c.due("PURSE of GUEST " + g, x.guest(g, 0), g);
        }
    }

    private static void book() {
        c.says("A BOOK is a text of at most 400 bytes");
        bookIs("day 1;" + spaces(394), -1);
        bookIs(spaces(394) + "day 1;", -1);
        bookFails("day 1;" + spaces(394), " ", 1);
        bookFails("day 1;" + spaces(394), spaces(540), 1);
        bookIs(spaces(400), -1);
        c.says("40 at most");
        String forty = "day 1;".repeat(40);
        bookIs(forty, -1);
        bookFails(forty, "day 1;", 4);
        c.says("GUEST ( 'takes' ROOM N (1 to 30) | 'leaves' )");
        bookIs("ben takes dach 1;", -1);
        bookIs("ben takes dach 30;", -1);
        bookFails("ben takes dach ", "0;", 2);
        bookFails("ben takes dach ", "31;", 2);
        bookFails("ben takes dach", ";", 1);
        bookFails("ben takes", ";", 1);
        bookFails("ben takes ", "30;", 1);
        bookFails("ben", ";", 1);
        bookFails("ben ", "dach 1;", 1);
        bookIs("anna leaves;", -1);
        bookFails("anna leaves ", "1;", 1);
        bookFails("", "takes dach 1;", 1);
        bookFails("", "leaves;", 1);
        c.says("'wheel' N (0 to 5)");
        bookIs("wheel 0;wheel 5;", -1);
        bookFails("wheel ", "6;", 2);
        bookFails("wheel", ";", 1);
        c.says("'day' N (1 to 60)");
        bookIs("day 60;", -1);
        bookFails("day ", "0;", 2);
        bookFails("day ", "61;", 2);
        bookFails("day", ";", 1);
        bookFails("day 1 ", "1;", 1);
        for (int i = 0; i < WORDS.length; i++) {
            if (!WORDS[i].equals("wheel") && !WORDS[i].equals("day")) {
                bookFails("", WORDS[i] + " 5;", 1);
            }
        }
    }

    private static void sentenceBytes() {
        c.says("A SENTENCE is a text of at most 200 bytes");
        sentenceIs("wet" + spaces(197), 1);
        sentenceIs(spaces(197) + "wet", 1);
        sentenceFails("wet" + spaces(197), " ", 1);
        sentenceFails("wet" + spaces(197), spaces(740), 1);
        sentenceFails(spaces(200), "", 1);
        sentenceFails(spaces(200), " ", 1);
    }

    private static void conds() {
        c.says("COND: ALL { 'or' ALL }. ALL: ONE { 'and' ONE }.");
        said("number=0 or number=1 and wet", 0, 1);
        said("number=0 and wet or number=1", 1);
        said("wet and let or number=3 and not let or number=0", 0, 1, 3);
        said("wet and let and number=2");
        said("number=3 or number=1 or number=2", 1, 2, 3);
        sentenceFails("", "", 1);
        sentenceFails("", "or wet", 1);
        sentenceFails("", "and wet", 1);
        sentenceFails("wet or", "", 1);
        sentenceFails("wet and ", "or let", 1);
        sentenceFails("wet and ", ")", 1);
        sentenceFails("wet ", "let", 1);
        sentenceFails("wet ", "not let", 1);
        sentenceFails("wet ", "(let)", 1);
        c.says("ONE: 'not' ONE | ( COND )");
        said("not wet", 0, 3);
        said("not not wet", 1, 2);
        said("not wet or let", 0, 1, 3);
        said("not let and wet", 2);
        said("not (let or number=0)", 2, 3);
        said("(number=0 or number=1) and wet", 1);
        sentenceFails("not", "", 1);
        sentenceFails("not ", "or wet", 1);
        sentenceFails("(", ")", 1);
        sentenceFails("(wet", "", 1);
        sentenceFails("(wet or let ", "wet", 1);
        sentenceFails("(wet)", ")", 1);
        sentenceFails("", ")", 1);
    }

    private static void ones() {
        c.says("'wet' | 'let' (somebody has it) | 'in' HOUSE | 'has' GUEST (he has it)");
        said("wet", 1, 2);
        said("let", 1);
        said("in tor", 0, 1);
        said("in mole", 2, 3);
        said("has anna", 1);
        said("has ben");
        sentenceFails("in", "", 1);
        sentenceFails("in ", "5", 1);
        sentenceFails("has", "", 1);
        sentenceFails("has ", "(ben)", 1);
        sentenceFails("wet ", "5", 1);
        c.says("( 'foot' | 'price' | 'depth' | 'number' ) SIGN NUMBER (DEPTH, 0 if it is dry; its number)");
        said("foot=18", 3);
        said("foot>18", 0);
        said("foot<18", 1, 2);
        said("price=9", 3);
        said("price<3", 1);
        said("price>3", 0, 3);
        said("depth=0", 0, 3);
        said("depth<0");
        said("depth>0", 1, 2);
        said("depth=6", 2);
        said("depth>6");
        said("number=0", 0);
        said("number>2", 3);
        said("number<0");
        said("number<999", 0, 1, 2, 3);
        said("foot=999");
        sentenceFails("foot", "", 1);
        sentenceFails("foot ", "5", 1);
        sentenceFails("foot ", "foot", 1);
        sentenceFails("foot<", "", 1);
        sentenceFails("foot<", "foot", 1);
        sentenceFails("foot<", "(5)", 1);
        sentenceFails("foot<5 ", "5", 1);
        c.says("SIGN: < = >.");
        sentenceFails("foot ", "(5", 1);
        sentenceFails("foot ", ")5", 1);
        sentenceFails("foot ", ";5", 1);
        sentenceFails("foot <", "<5", 1);
        sentenceFails("foot <", ">5", 1);
        for (int i = 0; i < WORDS.length; i++) {
            if (i < 15) {
                sentenceFails("", WORDS[i] + " tor", 1);
                sentenceFails("not ", WORDS[i] + " tor", 1);
            }
        }
        sentenceFails("", "tor", 1);
        sentenceFails("", "5", 1);
    }

    private static void mostOnes() {
        c.says("20 ONES, 8 within one another");
        sentenceIs("wet" + " or wet".repeat(19), 20);
        sentenceIs("wet" + " and wet".repeat(19), 20);
        sentenceIs("not wet" + " or not wet".repeat(9), 20);
        sentenceIs("(wet)" + "or(wet)".repeat(9), 20);
        sentenceFails("wet" + " or wet".repeat(19) + " or ", "wet", 4);
        sentenceFails("wet" + " and wet".repeat(19) + " and ", "wet", 4);
        sentenceFails("not wet" + " or not wet".repeat(9) + " or ", "not wet", 4);
        sentenceFails("wet" + " or wet".repeat(18) + " or not ", "wet", 4);
        sentenceFails("wet" + " or wet".repeat(18) + " or(", "wet)", 4);
        sentenceIs("(((((((wet)))))))", 8);
        sentenceFails("((((((((", "wet))))))))", 4);
        sentenceIs("not ".repeat(7) + "wet", 8);
        sentenceFails("not ".repeat(8), "wet", 4);
        sentenceFails("not ".repeat(8), "not wet", 4);
        sentenceFails("((((((((", "(wet", 4);
        sentenceIs("(not(not(not(wet))))", 8);
        sentenceFails("(not(not(not(not ", "wet))))", 4);
        sentenceIs("(((((((wet)))))))or " + "not ".repeat(7) + "wet", 16);
        sentenceIs("((((((wet)or(wet and(wet)))))))", 11);
        sentenceFails("((((((wet)or(wet and((", "wet", 4);
        c.says("It is said of ROOMS");
        DrownedRooms x = new DrownedRooms();
        c.due("without ROOMS", Check.sentence(x, "not wet or wet"), 3);
        c.due("of none", x.said(-1), 0);
        c.due("no first", x.said(0), -1);
    }

    private static void firstFault() {
        c.says("FAULTS, the first along the text, of one TOKEN the least");
        valleyFails("lake ", "100;house lake 1 1;", 2);
        valleyFails("house a 1 1;house ", "a 21 1;?", 3);
        valleyFails("lake 5;", "lake 100;", 3);
        bookFails("wheel ", "6;?", 2);
        bookFails("anna takes ", "ben 31;?", 3);
        sentenceFails("in ", "anna ?", 3);
        String forty = "day 1;".repeat(40);
        bookFails(forty, "nobody leaves;", 3);
        bookFails(forty, "tor leaves;", 3);
        bookFails(forty, "anna sleeps;", 4);
        bookFails(forty, "day 61;", 4);
        bookFails(forty, "lake 5;", 1);
        bookFails(forty, "5;", 1);
        bookFails(forty, ";", 1);
        bookFails(forty, "?", 1);
        String twenty = "wet" + " or wet".repeat(19) + " or ";
        sentenceFails(twenty, "tor", 1);
        sentenceFails(twenty, "?", 1);
        sentenceFails(twenty, ")", 1);
        sentenceFails(twenty, "", 1);
        sentenceFails(twenty, "in nowhere", 4);
        sentenceFails(twenty, "foot 5", 4);
        sentenceFails("not ".repeat(8), "or", 1);
        sentenceFails("not ".repeat(8), "", 1);
        sentenceFails("not ".repeat(8), "has nobody", 4);
    }

    private static void faultPlaces() {
        c.says("1 no TOKEN, or one that can't come (at it;");
        valleyFails("lake 5 \n ", "?", 1);
        valleyFails("lake 5 \n ", "lake", 1);
        valleyFails("\n \n", "boat", 1);
        c.says("the end: how many bytes there are;");
        valleyFails("lake", "", 1);
        valleyFails("lake \n ", "", 1);
        bookFails("anna leaves  ", "", 1);
        sentenceFails("  \n", "", 1);
        sentenceFails("( wet  ", "", 1);
        valleyFails("lake 5" + spaces(894), "", 1);
        bookFails("day 1" + spaces(395), "", 1);
        sentenceFails("(wet" + spaces(196), "", 1);
        c.says("the most bytes told, if there are more and no FAULT is ahead");
        valleyFails("lake 5" + spaces(894), " ;", 1);
        valleyFails("lake 5" + spaces(894), "", 1);
        valleyFails("lake 5" + spaces(894), spaces(40), 1);
        valleyFails("lake 5;" + spaces(893), "lake 5;", 1);
        valleyFails("lake 5;" + spaces(892), "lake 5;", 3);
        valleyFails("lake 5;" + spaces(892), "?" + spaces(40), 1);
        valleyFails("lake ", "100;" + spaces(930), 2);
        bookFails("day 1;" + spaces(394), "wheel 9;", 1);
        bookFails("day 1;" + spaces(393), "?" + spaces(9), 1);
        bookFails("day ", "61;" + spaces(400), 2);
        sentenceFails("wet" + spaces(197), "wet", 1);
        sentenceFails("wet" + spaces(196), "wet", 1);
        sentenceFails("in ", "anna" + spaces(200), 3);
        c.says("TOKENS that begin ahead of it are read whole)");
        valleyFails("lake" + spaces(895), "100;", 2);
        valleyFails("lake" + spaces(894), "1000;", 1);
        tokenGoesOn(spaces(892) + "lake " + spaces(2), "10;", 900, 0);
        tokenGoesOn("house a 1 1;" + spaces(885), "lake 5;", 900, 0);
        valleyFails("house a 1 1;" + spaces(887), "houses 5;", 1);
        bookFails(spaces(398), "annas leaves;", 3);
        tokenGoesOn(spaces(398), "anna leaves;", 400, 1);
        sentenceFails(spaces(198), "lets", 1);
        tokenGoesOn(spaces(198), "let", 200, 2);
        sentenceFails("in" + spaces(195), "moles", 3);
        tokenGoesOn("in" + spaces(195), "mole", 200, 2);
    }

    /** The second text's first TOKEN goes on beyond the most bytes and is none that can't come: the FAULT is there. */
    private static void tokenGoesOn(String ahead, String token, int most, int which) {
        String text = ahead + token;
        if (which == 0) {
            valleyFails(text.substring(0, most), text.substring(most), 1);
        } else if (which == 1) {
            bookFails(text.substring(0, most), text.substring(most), 1);
        } else {
            sentenceFails(text.substring(0, most), text.substring(most), 1);
        }
    }

    private static void faultKinds() {
        String ahead = "house h 1 1;room r h 1 1;guest g 1 1;guest f 1 1;";
        c.says("2 a NUMBER that is not as told (at it)");
        valleyFails("rain 30 ", "10;", 2);
        bookFails("day 60;wheel ", "6;", 2);
        c.says("3 a NAME told twice, not told, or of another sort");
        valleyFails(ahead + "guest ", "h 1 1;", 3);
        valleyFails(ahead + "room s ", "nowhere 1 1;", 3);
        valleyFails(ahead + "room s ", "r 1 1;", 3);
        valleyFails(ahead + "room s ", "s 1 1;", 3);
        valleyFails(ahead + "room s ", "g 1 1;", 3);
        valleyFails(ahead + "quarrel ", "h g;", 3);
        valleyFails(ahead + "quarrel g ", "r;", 3);
        valleyFails(ahead + "quarrel g ", "nobody;", 3);
        valleyFails(ahead + "sleeps ", "nobody r 1;", 3);
        valleyFails(ahead + "sleeps ", "r g 1;", 3);
        valleyFails(ahead + "sleeps g ", "nowhere 1;", 3);
        valleyFails(ahead + "sleeps g ", "h 1;", 3);
        bookFails("", "nobody leaves;", 3);
        bookFails("", "tor leaves;", 3);
        bookFails("", "dach leaves;", 3);
        bookFails("anna takes ", "nowhere 1;", 3);
        bookFails("anna takes ", "tor 1;", 3);
        bookFails("anna takes ", "anna 1;", 3);
        sentenceFails("in ", "nowhere", 3);
        sentenceFails("in ", "dach", 3);
        sentenceFails("in ", "anna", 3);
        sentenceFails("has ", "nobody", 3);
        sentenceFails("has ", "tor", 3);
        sentenceFails("has ", "dach", 3);
        c.says("two that must be unlike, or were told together");
        valleyFails(ahead + "quarrel f ", "f;", 3);
        valleyFails(ahead + "quarrel f g;quarrel f ", "g;", 3);
        valleyFails(ahead + "quarrel f g;quarrel g ", "f;", 3);
        c.says("a GUEST, a ROOM told to sleep again (at it)");
        valleyFails(ahead + "sleeps g r 1;sleeps ", "g nowhere 1;", 3);
        valleyFails(ahead + "sleeps g r 1;sleeps f ", "r 99;", 3);
        c.says("what is told once told again (at the WORD)");
        for (String line : new String[] {"lake 1;", "rain 1 1;", "mill 1;", "storm 1;"}) {
            valleyFails(line + ahead, line, 3);
            valleyFails(line + ahead, line.substring(0, 5).trim() + " ?", 3);
        }
        c.says("4 one more than there may be of a sort");
        StringBuilder six = new StringBuilder();
        for (char g = 'a'; g < 'g'; g++) {
            six.append("guest ").append(g).append(" 1 1;");
        }
        valleyFails(six + "lake 5;\n", "guest 5;", 4);
        c.says("a 41st LINE of a BOOK (at the LINE's first WORD)");
        String forty = "day 1;".repeat(40);
        bookFails(forty + " \n ", "wheel 9;", 4);
        bookFails(forty, "anna ?", 4);
        c.says("a 21st ONE, a ninth within (at its first TOKEN)");
        sentenceFails("wet" + " or wet".repeat(18) + " or not ", "foot ?", 4);
        sentenceFails("( ( ( ( ( ( ( (  ", "depth ?", 4);
    }
}
