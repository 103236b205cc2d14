/** Promise by promise: ordinary inputs, the edges that the document names, and wrong inputs. */
public final class PromiseTest {
    private static final String BASE = "lake 18;rain 3 4;mill 15;house tor 2 3;house mole 10 1;room dach tor 20 5;"
            + "room klamm tor 15 2;room keller mole 12 3;room giebel mole 30 9;guest anna 40 5;guest ben 12 0;"
            + "guest cora 90 2;quarrel anna ben;sleeps anna klamm 3;";

    private static final Check c = new Check();

    public static void main(String[] args) {
        newObject();
        feed();
        end();
        valley();
        valleyTold();
        fault();
        room();
        guest();
        now();
        take();
        leave();
        wheel();
        days();
        undo();
        level();
        dry();
        wets();
        stays();
        plan();
        round();
        marks();
        visits();
        quiet();
        quarrels();
        brings();
        bill();
        drawn();
        odds();
        book();
        told();
        sentence();
        said();
        images();
        count();
        fullValley();
        lastDay();
        c.close("PromiseTest");
    }

    private static DrownedRooms base() {
        return Check.in(BASE);
    }

    // Promise 1
    private static void newObject() {
        DrownedRooms x = new DrownedRooms();
        int[] counts = {0, 0, 0, 7, 3, 15, 0, 0};
        for (int what = 0; what < 8; what++) {
            c.due("new count(" + what + ")", x.count(what), counts[what]);
        }
        int[] now = {0, 20, 1, 0, 0, 0, 0};
        for (int what = 0; what < 7; what++) {
            c.due("new now(" + what + ")", x.now(what), now[what]);
        }
        c.due("new fault()", x.fault(), 0);
        c.due("new undo()", x.undo(), DrownedRooms.NONE);
        c.due("NONE", DrownedRooms.NONE, -1);
    }

    // Promise 2
    private static void feed() {
        DrownedRooms x = new DrownedRooms();
        c.due("feed", x.feed(Check.four("rain", 0), Check.four(" 5 2", 0), Check.four(";lak", 0), Check.four("e 77", 0),
                Check.four(";   ", 0)), 20);
        c.due("valley of what was fed", x.valley(), 2);
        c.due("every", x.count(3), 5);
        c.due("level", x.now(1), 77);
        for (int i = 1; i <= 47; i++) {
            c.due("feed " + i, x.feed(0, 0, 0, 0, 0), 20 * i);
        }
        c.due("feed beyond 940", x.feed(0, 0, 0, 0, 0), -1);
        c.due("none came", x.count(7), 940);
        x.end(921);
        c.due("feed to 941", x.feed(0, 0, 0, 0, 0), -1);
        x.end(920);
        c.due("feed to 940", x.feed(0, 0, 0, 0, 0), 940);
    }

    // Promise 3
    private static void end() {
        DrownedRooms x = new DrownedRooms();
        c.due("end(1) of nothing", x.end(1), false);
        c.due("end(0)", x.end(0), true);
        x.feed(0, 0, 0, 0, 0);
        c.due("end(21)", x.end(21), false);
        c.due("end(-1)", x.end(-1), false);
        c.due("all stay", x.count(7), 20);
        c.due("end(20)", x.end(20), true);
        c.due("end(7)", x.end(7), true);
        c.due("seven", x.count(7), 7);
        c.due("end(8)", x.end(8), false);
    }

    private static void valleyIs(String text, int lines, int kind) {
        DrownedRooms x = Check.in("lake 33;");
        c.due("valley " + text, Check.valley(x, text), lines);
        c.due("fault of " + text, x.fault(), kind);
        c.due("the tape is empty behind " + text, x.count(7), 0);
        if (kind != 0) {
            c.due("the VALLEY stays behind " + text, x.now(1), 33);
        }
    }

    private static void valleyFails(String good, String at, int kind) {
        valleyIs(good + at, -1 - good.length(), kind);
    }

    // Promise 4
    private static void valley() {
        valleyIs("", 0, 0);
        valleyIs(" \n ", 0, 0);
        valleyIs("lake 0;rain 30 9;mill 99;storm 12;", 4, 0);
        valleyIs("lake 007 ;\n\nhouse abcdefg 20 0;", 2, 0);
        valleyFails("", "boat 1;", 1);
        valleyFails("", ";", 1);
        valleyFails("", "takes 1;", 1);
        valleyFails("lake 5", "", 1);
        valleyFails("lake 5  \n", "", 1);
        valleyFails("lake ", ";", 1);
        valleyFails("lake ", "x;", 1);
        valleyFails("lake 5 ", "5;", 1);
        valleyFails("", "lake5;", 1);
        valleyFails("", "Lake 5;", 1);
        valleyFails("lake 5", "\t;", 1);
        valleyFails("lake ", "1000;", 1);
        valleyFails("lake ", "0005;", 1);
        valleyFails("lake ", "100;", 2);
        valleyFails("rain ", "0 1;", 2);
        valleyFails("rain ", "31 1;", 2);
        valleyFails("rain 1 ", "10;", 2);
        valleyFails("mill ", "100;", 2);
        valleyFails("storm ", "13;", 2);
        valleyFails("lake 5;", "lake 5;", 3);
        valleyFails("rain 1 1;", "rain 1 1;", 3);
        valleyFails("mill 5;", "mill 5;", 3);
        valleyFails("storm 5;lake 1;", "storm x;", 3);
        valleyFails("house ", "abcdefgh 1 1;", 1);
        valleyFails("house ", "a1 1 1;", 1);
        valleyFails("house ", "5 1 1;", 1);
        valleyFails("house ", "number 1 1;", 1);
        valleyFails("house ", "leaves 1 1;", 1);
        valleyFails("house a ", "21 1;", 2);
        valleyFails("house a 1 ", "21;", 2);
        valleyFails("house a 1 1;house ", "a 1 1;", 3);
        valleyFails("house a 1 1;guest ", "a 1 1;", 3);
        String five = "house a 1 1;house b 1 1;house c 1 1;house d 1 1;house e 1 1;";
        valleyIs(five, 5, 0);
        valleyFails(five, "house a x;", 4);
        String rooms = five;
        for (char r = 'f'; r < 'n'; r++) {
            rooms = rooms + "room " + r + " a 1 1;";
        }
        valleyIs(rooms, 13, 0);
        valleyFails(rooms, "room a;", 4);
        String guests = rooms;
        for (char g = 'n'; g < 't'; g++) {
            guests = guests + "guest " + g + " 1 1;";
        }
        valleyIs(guests, 19, 0);
        valleyFails(guests, "guest a;", 4);
        longValleys();
    }

    private static void longValleys() {
        String line = "lake 5;";
        valleyIs(line + " ".repeat(893), 1, 0);
        valleyIs(line + " ".repeat(894), -901, 1);
        valleyIs(" ".repeat(899) + "l", -900, 1);
        valleyIs(" ".repeat(900) + "?", -901, 1);
        // A TOKEN that begins ahead of the 900th byte is read whole.
        valleyIs("house a 1 1;" + " ".repeat(886) + "lakes", -899, 1);
        valleyIs("house a 1 1;" + " ".repeat(886) + "lake 5;", -901, 1);
        valleyIs("lake 5;" + " ".repeat(891) + "lake 5;", -899, 3);
        valleyIs("lake 5" + " ".repeat(893) + ";", 1, 0);
        valleyIs("lake 5" + " ".repeat(894) + ";", -901, 1);
    }

    private static void valleyTold() {
        String ahead = "house h 1 1;guest g 1 1;guest f 1 1;";
        valleyFails("room r ", "h 1 1;", 3);
        valleyFails(ahead + "room r ", "g 1 1;", 3);
        valleyFails(ahead + "room r ", "wet 1 1;", 1);
        valleyFails(ahead + "room r h ", "100 1;", 2);
        valleyFails(ahead + "room r h 99 ", "0;", 2);
        valleyFails(ahead + "room r h 99 ", "31;", 2);
        valleyFails("guest a ", "100 1;", 2);
        valleyFails("guest a 99 ", "21;", 2);
        valleyFails(ahead + "quarrel ", "h f;", 3);
        valleyFails(ahead + "quarrel ", "x f;", 3);
        valleyFails(ahead + "quarrel g ", "g;", 3);
        valleyFails(ahead + "quarrel g f;quarrel f ", "g;", 3);
        valleyFails(ahead + "quarrel g f;quarrel g ", "f;", 3);
        valleyFails(ahead + "quarrel g ", ";", 1);
        String slept = ahead + "room r h 1 1;room s h 1 1;sleeps g r 30;";
        valleyIs(slept, 6, 0);
        valleyFails(slept + "sleeps ", "g s 1;", 3);
        valleyFails(slept + "sleeps f ", "r 1;", 3);
        valleyFails(slept + "sleeps f ", "g 1;", 3);
        valleyFails(slept + "sleeps f s ", "0;", 2);
        valleyFails(slept + "sleeps f s ", "31;", 2);
        DrownedRooms x = base();
        x.wheel(4);
        x.days(3);
        Check.sentence(x, "wet");
        c.due("a new VALLEY", Check.valley(x, "house a 1 1;room b a 1 1;"), 2);
        int[] now = {0, 20, 1, 0, 1, 0, 0};
        for (int what = 0; what < 7; what++) {
            c.due("now(" + what + ") in a new VALLEY", x.now(what), now[what]);
        }
        c.due("no SENTENCE in a new VALLEY", x.said(-1), -1);
        c.due("nothing to undo in a new VALLEY", x.undo(), -1);
        c.due("rain as without", x.count(3), 7);
        c.noSuchGuest(x, 0, 0);
    }

    // Promise 5
    private static void fault() {
        DrownedRooms x = base();
        c.due("fault()", x.fault(), 0);
        Check.valley(x, "lake 100;");
        c.due("fault() of a valley", x.fault(), 2);
        c.due("another lives", x.book(5), -1000);
        c.due("fault() stays", x.fault(), 2);
        Check.book(x, "dora leaves;", 0);
        c.due("fault() of a book", x.fault(), 3);
        Check.sentence(x, "wet wet");
        c.due("fault() of a sentence", x.fault(), 1);
        x.stays();
        x.marks();
        c.due("fault() of no text", x.fault(), 1);
        Check.sentence(x, "wet");
        c.due("fault() of none", x.fault(), 0);
    }

    // Promise 6
    private static void room() {
        DrownedRooms x = base();
        int[][] due = {{0, 20, 5, 0, -1, 0}, {0, 15, 2, 3, 0, 0}, {1, 12, 3, 6, -1, 0}, {1, 30, 9, 0, -1, 0}};
        for (int r = 0; r < 4; r++) {
            for (int what = 0; what < 6; what++) {
                c.due("room(" + r + ", " + what + ")", x.room(r, what), due[r][what]);
            }
        }
        c.noSuchRoom(x, 4, 0);
        c.noSuchRoom(x, -1, 0);
        c.noSuchRoom(x, 0, 6);
        c.noSuchRoom(x, 0, -1);
        x.take(1, 0, 4);
        x.days(3);
        c.due("two nights were paid", x.room(0, 5), 10);
        c.due("he has it no more", x.room(0, 4), -1);
        c.due("free nights bring nothing", x.room(1, 5), 0);
    }

    // Promise 7
    private static void guest() {
        DrownedRooms x = base();
        int[][] due = {{40, 5, 1, 3, 0, 2}, {12, 0, -1, 0, 0, 1}, {90, 2, -1, 0, 0, 0}};
        for (int g = 0; g < 3; g++) {
            for (int what = 0; what < 6; what++) {
                c.due("guest(" + g + ", " + what + ")", x.guest(g, what), due[g][what]);
            }
        }
        c.noSuchGuest(x, 3, 0);
        c.noSuchGuest(x, -1, 0);
        c.noSuchGuest(x, 0, 6);
        c.noSuchGuest(x, 0, -1);
        x.days(2);
        c.due("a night left", x.guest(0, 3), 1);
        c.due("wet nights", x.guest(0, 4), 2);
        x.days(1);
        c.due("no night left", x.guest(0, 2), -1);
        c.due("three wet nights", x.guest(0, 4), 3);
        c.due("nothing paid", x.guest(0, 0), 40);
    }

    // Promise 8
    private static void now() {
        DrownedRooms x = base();
        x.take(1, 3, 1);
        int[] first = {0, 18, 1, 0, 6, 10, 0};
        for (int what = 0; what < 7; what++) {
            c.due("now(" + what + ")", x.now(what), first[what]);
        }
        x.wheel(2);
        x.days(1);
        int[] then = {1, 16, 2, 2, 6, 2, 9};
        for (int what = 0; what < 7; what++) {
            c.due("now(" + what + ") then", x.now(what), then[what]);
        }
        c.due("now(7)", x.now(7), -1);
        c.due("now(-1)", x.now(-1), -1);
    }

    // Promise 9
    private static void take() {
        DrownedRooms x = base();
        c.due("he has one", x.take(0, 1, 1), 1);
        c.due("he has one, and it is too deep for nobody", x.take(0, 2, 1), 1);
        c.due("somebody has it", x.take(2, 1, 1), 2);
        c.due("too deep", x.take(2, 2, 1), 3);
        c.due("no such guest", x.take(3, 0, 1), -1);
        c.due("no guest below 0", x.take(-1, 0, 1), -1);
        c.due("no such room", x.take(1, 4, 1), -1);
        c.due("no room below 0", x.take(1, -1, 1), -1);
        c.due("no night", x.take(1, 0, 0), -1);
        c.due("31 nights", x.take(1, 0, 31), -1);
        c.due("take", x.take(1, 0, 30), 0);
        c.due("his room", x.guest(1, 2), 0);
        c.due("his nights", x.guest(1, 3), 30);
        DrownedRooms y = Check.in("lake 10;house h 1 1;room r h 5 1;guest a 1 5;guest b 1 4;");
        c.due("as deep as his breath is less by one", y.take(1, 0, 1), 3);
        c.due("as deep as his breath", y.take(0, 0, 1), 0);
    }

    // Promise 10
    private static void leave() {
        DrownedRooms x = base();
        c.due("he has none", x.leave(1), 1);
        c.due("no such one", x.leave(3), -1);
        c.due("none below 0", x.leave(-1), -1);
        c.due("leave", x.leave(0), 0);
        c.due("no room", x.guest(0, 2), -1);
        c.due("no nights", x.guest(0, 3), 0);
        c.due("again", x.leave(0), 1);
    }

    // Promise 11
    private static void wheel() {
        DrownedRooms x = base();
        c.due("it is there", x.wheel(1), 1);
        c.due("wheel(6)", x.wheel(6), -1);
        c.due("wheel(-1)", x.wheel(-1), -1);
        c.due("wheel(0)", x.wheel(0), 0);
        c.due("wheel(5)", x.wheel(5), 0);
        c.due("at", x.now(2), 5);
        x.days(4);
        c.due("as much less, 4 more once", x.now(1), 2);
        c.due("while it was high", x.now(3), 5);
        x.days(1);
        c.due("0 at least", x.now(1), 0);
    }

    // Promise 12
    private static void days() {
        DrownedRooms x = base();
        c.due("days(0)", x.days(0), -1);
        c.due("days(61)", x.days(61), -1);
        c.due("days(2)", x.days(2), 2);
        c.due("level behind 2", x.now(1), 16);
        c.due("mills behind 2", x.now(3), 2);
        c.due("days(60)", x.days(60), 60);
        for (int i = 0; i < 5; i++) {
            x.days(60);
        }
        c.due("fewer", x.days(60), 38);
        c.due("the last", x.now(0), 400);
        c.due("none", x.days(1), 0);
        DrownedRooms y = Check.in("lake 98;rain 1 9;mill 99;house h 0 0;room r h 99 3;guest a 8 0;sleeps a r 9;");
        y.days(1);
        c.due("99 at most", y.now(1), 99);
        c.due("too low for the mills", y.now(3), 0);
        y.days(1);
        c.due("as high as told", y.now(3), 1);
        c.due("paid twice", y.guest(0, 0), 2);
        c.due("nights left", y.guest(0, 3), 7);
        y.days(1);
        c.due("not so much", y.guest(0, 2), -1);
        c.due("keeps it", y.guest(0, 0), 2);
        DrownedRooms z = Check.in("lake 9;rain 1 2;house h 0 0;room r h 8 1;guest a 50 2;sleeps a r 9;");
        z.days(1);
        c.due("as deep as his breath", z.guest(0, 4), 1);
        z.days(1);
        c.due("deeper", z.guest(0, 2), -1);
        c.due("one wet night", z.guest(0, 4), 1);
        DrownedRooms w = Check.in("lake 99;rain 1 9;mill 0;");
        w.wheel(5);
        w.days(1);
        c.due("both at once", w.now(1), 99);
        w.wheel(0);
        Check.valley(w, "lake 2;rain 1 3;");
        w.wheel(5);
        w.days(1);
        c.due("both at once from below", w.now(1), 0);
    }

    // Promise 13
    private static void undo() {
        DrownedRooms x = base();
        c.due("none", x.undo(), -1);
        x.take(1, 1, 1);
        x.wheel(1);
        x.leave(2);
        x.days(0);
        x.drawn(0, 1);
        c.due("none was done", x.undo(), -1);
        x.take(1, 0, 2);
        x.leave(0);
        x.wheel(3);
        x.days(2);
        x.drawn(3, 77);
        Check.book(x, "wheel 0;day 1;", 1);
        Check.book(x, "wheel 5;day 1;", 0);
        c.due("the book", x.undo(), 5);
        c.due("wheel", x.now(2), 3);
        c.due("day", x.now(0), 5);
        c.due("drawn", x.undo(), 4);
        c.due("day 2", x.now(0), 2);
        c.due("days", x.undo(), 3);
        c.due("level", x.now(1), 18);
        c.due("brought", x.now(6), 0);
        c.due("wheel()", x.undo(), 2);
        c.due("wheel at 1", x.now(2), 1);
        c.due("leave()", x.undo(), 1);
        c.due("anna is back", x.guest(0, 3), 3);
        c.due("take()", x.undo(), 0);
        c.due("ben is out", x.guest(1, 2), -1);
        c.due("none more", x.undo(), -1);
        for (int i = 0; i < 10; i++) {
            x.wheel(i % 2 == 0 ? 0 : 5);
        }
        for (int i = 7; i >= 0; i--) {
            c.due("eight are kept", x.undo(), i);
        }
        c.due("no ninth", x.undo(), -1);
        c.due("behind the second", x.now(2), 5);
    }

    // Promise 14
    private static void level() {
        DrownedRooms x = base();
        int[] due = {18, 17, 16, 19, 18, 17, 20, 19, 18, 21};
        for (int n = 0; n < due.length; n++) {
            c.due("level(" + n + ")", x.level(n), due[n]);
        }
        c.due("level(60)", x.level(60), 38);
        c.due("level(61)", x.level(61), -1);
        c.due("level(-1)", x.level(-1), -1);
        c.due("nothing went on", x.now(0), 0);
        for (int i = 0; i < 6; i++) {
            x.days(60);
        }
        x.days(39);
        c.due("one is left", x.level(1), 99 - 1);
        c.due("fewer are left", x.level(2), -1);
        x.days(1);
        c.due("level(0) behind all", x.level(0), 98);
        c.due("level(1) behind all", x.level(1), -1);
    }

    // Promise 15
    private static void dry() {
        DrownedRooms x = base();
        c.due("dry(0, 8)", x.dry(0, 8), 8);
        c.due("dry(0, 9)", x.dry(0, 9), 8);
        c.due("dry(0, 60)", x.dry(0, 60), 11);
        c.due("dry(1, 60)", x.dry(1, 60), 0);
        c.due("dry(0, 0)", x.dry(0, 0), -1);
        c.due("dry(0, 61)", x.dry(0, 61), -1);
        c.due("dry(4, 1)", x.dry(4, 1), -1);
        c.due("dry(-1, 1)", x.dry(-1, 1), -1);
        DrownedRooms y = Check.in("rain 1 1;house h 1 1;room r h 20 1;");
        for (int i = 0; i < 6; i++) {
            y.days(60);
        }
        c.due("fewer", y.dry(0, 60), 40);
    }

    // Promise 16
    private static void wets() {
        DrownedRooms x = base();
        c.due("wets(0)", x.wets(0), 9);
        c.due("wets(1)", x.wets(1), 0);
        c.due("wets(3)", x.wets(3), 39);
        c.due("wets(4)", x.wets(4), -1);
        c.due("wets(-1)", x.wets(-1), -1);
        DrownedRooms y = Check.in("lake 0;rain 30 3;house h 1 1;room a h 2 1;room b h 5 1;room d h 6 1;");
        y.wheel(0);
        c.due("a behind 30", y.wets(0), 30);
        c.due("b behind 60", y.wets(1), 60);
        c.due("d not so soon", y.wets(2), -1);
        for (int i = 0; i < 6; i++) {
            y.days(60);
        }
        y.wheel(5);
        y.days(30);
        y.wheel(0);
        c.due("fewer are left", y.wets(0), -1);
    }

    // Promises 17 and 18
    private static void stays() {
        DrownedRooms x = base();
        c.due("ahead of any", x.stayAt(0), -1);
        staysAre(x, new int[] {0, 0, 6, 1, 0, 9, 2, 2, 3}, 2, 0, 3, -1);
        // Behind the 9th DAY ROOM 0 is wet; a STAY may begin in the night in which another is over.
        staysAre(x, new int[] {0, 0, 6, 0, 6, 2, 1, 0, 8}, 3, 0, 0, 3);
        staysAre(x, new int[] {0, 8, 1}, 1, 3);
        staysAre(x, new int[] {0, 7, 1}, 1, 0);
        staysAre(x, new int[] {0, 200, 30}, 0, -1);
        staysAre(x, new int[] {2, 0, 1, 2, 0, 1, 2, 0, 1, 2, 0, 1, 2, 0, 1}, 2, 0, 3, -1, -1, -1);
        c.due("the tape is empty", x.count(7), 0);
        staysFail(x, 0, 0);
        staysFail(x);
        staysFail(x, 3, 0, 1);
        staysFail(x, 255, 0, 1);
        staysFail(x, 0, 0, 0);
        staysFail(x, 0, 0, 31);
        staysFail(x, 0, 0, 1, 0, 0, 1, 0, 0, 1, 0, 0, 1, 0, 0, 1, 0, 0, 1);
        c.due("the latest stays", x.stayAt(1), 3);
        c.due("none such", x.stayAt(5), -1);
        c.due("none below 0", x.stayAt(-1), -1);
        // The first has a ROOM, though the others could have as many without it: the least ROOM comes first.
        DrownedRooms y = Check.in("rain 1 1;house h 0 0;room a h 40 1;guest g 0 0;");
        staysAre(y, new int[] {0, 0, 2, 0, 1, 2}, 1, 0, -1);
        staysAre(y, new int[] {0, 0, 3, 0, 0, 1, 0, 1, 1}, 2, -1, 0, 0);
        for (int i = 0; i < 6; i++) {
            y.days(60);
        }
        y.days(30);
        staysAre(y, new int[] {0, 9, 1}, 1, 0);
        staysAre(y, new int[] {0, 10, 1}, 0, -1);
        staysAre(y, new int[] {0, 0, 11}, 0, -1);
        Check.valley(y, "");
        c.due("the latest stays() in another VALLEY", y.stayAt(0), -1);
    }

    private static void staysAre(DrownedRooms x, int[] bytes, int many, int... rooms) {
        Check.putBytes(x, bytes);
        c.due("stays", x.stays(), many);
        for (int k = 0; k < rooms.length; k++) {
            c.due("stayAt(" + k + ")", x.stayAt(k), rooms[k]);
        }
        c.due("stayAt behind them", x.stayAt(rooms.length), -1);
    }

    private static void staysFail(DrownedRooms x, int... bytes) {
        Check.putBytes(x, bytes);
        c.due("stays not as told", x.stays(), -1);
        c.due("the tape is empty", x.count(7), 0);
    }

    // Promises 19 and 20
    private static void plan() {
        DrownedRooms x = base();
        c.due("ahead of any", x.planAt(0), -1);
        planIs(x, 1, 2, 8, 3, 5);
        planIs(x, 0, 3, 8, 0, 3, 5);
        c.due("by none", x.plan(2, 1), -1);
        c.due("the latest stays", x.planAt(2), 5);
        c.due("planAt(-1)", x.planAt(-1), -1);
        c.due("k 0", x.plan(0, 0), -1);
        c.due("k 6", x.plan(0, 6), -1);
        c.due("no such room", x.plan(4, 1), -1);
        c.due("no room below 0", x.plan(-1, 1), -1);
        c.due("the wheel is where it was", x.now(2), 1);
        // The mills can have nothing: the least is 0 each DAY.
        planIs(Check.in("lake 5;mill 9;house h 0 0;room r h 9 1;"), 0, 2, 0, 0, 0);
        for (int i = 0; i < 6; i++) {
            x.days(60);
        }
        x.days(38);
        x.wheel(5);
        c.due("fewer DAYS are left", x.plan(3, 3), -1);
        c.due("the latest", x.planAt(0), 0);
    }

    private static void planIs(DrownedRooms x, int r, int k, int gain, int... wheels) {
        c.due("plan(" + r + ", " + k + ")", x.plan(r, k), gain);
        for (int i = 0; i < wheels.length; i++) {
            c.due("planAt(" + i + ")", x.planAt(i), wheels[i]);
        }
        c.due("planAt behind them", x.planAt(wheels.length), -1);
    }

    // Promises 21 and 22
    private static void round() {
        DrownedRooms x = base();
        c.due("ahead of any", x.roundAt(0), -1);
        c.due("one house", x.round(), 10);
        c.due("roundAt(0)", x.roundAt(0), 0);
        c.due("roundAt(1)", x.roundAt(1), -1);
        x.take(2, 3, 1);
        x.take(1, 0, 1);
        c.due("two houses, one of them twice", x.round(), 5 + 10 + 11);
        c.due("the least first", x.roundAt(0), 0);
        c.due("then the other", x.roundAt(1), 1);
        c.due("no third", x.roundAt(2), -1);
        c.due("roundAt(-1)", x.roundAt(-1), -1);
        x.leave(0);
        x.leave(1);
        x.leave(2);
        c.due("the latest", x.roundAt(1), 1);
        c.due("nobody", x.round(), 0);
        c.due("none such", x.roundAt(0), -1);
        DrownedRooms y = Check.in("house a 10 10;house b 0 5;house d 5 0;room r a 30 1;room s b 30 1;room t d 30 1;"
                + "guest g 1 1;guest h 1 1;guest i 1 1;sleeps g r 1;sleeps h s 1;sleeps i t 1;");
        c.due("fewest", y.round(), 40);
        c.due("first of like ones", y.roundAt(0), 1);
        c.due("second", y.roundAt(1), 0);
        c.due("third", y.roundAt(2), 2);
    }

    // Promises 23 to 26
    private static void marks() {
        DrownedRooms x = base();
        c.due("lowest ahead", x.lowest(), -1);
        c.due("highest ahead", x.highest(), -1);
        c.due("bell ahead", x.bell(), -1);
        marksAre(x, new int[] {1, 1, 0, 0}, 5, 16, 20, 0);
        marksAre(x, new int[] {3, 0, 2, 1}, 18, 13, 30, 0);
        marksAre(x, new int[] {0, 1}, 79, 21, 99, 3);
        marksAre(x, new int[] {0, 0}, 21, 0, 20, 2);
        marksAre(x, new int[] {2, 1, 1, 0}, 3, 13, 15, 0);
        marksAre(x, new int[] {2, 1, 2, 0}, 0, 13, 15, 0);
        marksAre(x, new int[] {2, 1, 2, 1, 2, 1, 2, 1, 2, 1, 2, 1, 2, 1, 2, 1}, 87, 13, 99, 3);
        c.due("the tape is empty", x.count(7), 0);
        marksAre(x, new int[] {2, 1, 2, 1, 2, 1, 2, 1, 2, 1, 2, 1, 2, 1, 2, 1, 2, 1}, -1, 13, 99, 3);
        marksAre(x, new int[] {}, -1, 13, 99, 3);
        marksAre(x, new int[] {0}, -1, 13, 99, 3);
        marksAre(x, new int[] {4, 0}, -1, 13, 99, 3);
        marksAre(x, new int[] {0, 2}, -1, 13, 99, 3);
        marksAre(x, new int[] {255, 1}, -1, 13, 99, 3);
        c.due("the tape is empty then too", x.count(7), 0);
        Check.valley(x, "house a 1 1;room b a 50 1;");
        c.due("as it was then", x.bell(), 3);
        // BELL halves what is left: 0 .. 49 or 50 .. 99.
        DrownedRooms y = Check.in("house h 1 1;room a h 99 1;room b h 40 1;room d h 49 1;room e h 50 1;");
        marksAre(y, new int[] {0, 0}, 100, 0, 99, 2);
        marksAre(y, new int[] {0, 1}, 0, 0, 99, 2);
    }

    private static void marksAre(DrownedRooms x, int[] bytes, int many, int low, int high, int bell) {
        Check.putBytes(x, bytes);
        c.due("marks", x.marks(), many);
        c.due("lowest", x.lowest(), low);
        c.due("highest", x.highest(), high);
        c.due("bell", x.bell(), bell);
    }

    // Promise 27
    private static void visits() {
        DrownedRooms x = base();
        x.take(2, 0, 5);
        c.due("visits(0)", x.visits(0), 4);
        c.due("visits(1)", x.visits(1), 4);
        c.due("visits(2)", x.visits(2), 0);
        x.days(1);
        c.due("visits(2), not so deep", x.visits(2), 1);
        c.due("visits(1), still too deep", x.visits(1), 4);
        c.due("visits(3)", x.visits(3), -1);
        c.due("visits(-1)", x.visits(-1), -1);
    }

    // Promise 28
    private static void quiet() {
        DrownedRooms x = base();
        c.due("quiet(0)", x.quiet(0), 11);
        c.due("quiet(1)", x.quiet(1), 8);
        c.due("quiet(2)", x.quiet(2), 9);
        x.take(1, 3, 2);
        c.due("quiet(0), ben in the mole", x.quiet(0), 3);
        c.due("quiet(2), he does not quarrel", x.quiet(2), 1);
        c.due("quiet(3)", x.quiet(3), -1);
        c.due("quiet(-1)", x.quiet(-1), -1);
    }

    // Promise 29
    private static void quarrels() {
        DrownedRooms x = base();
        c.due("none", x.quarrels(), 0);
        x.take(1, 3, 2);
        c.due("in two houses", x.quarrels(), 0);
        x.leave(1);
        x.take(1, 0, 2);
        c.due("in one", x.quarrels(), 1);
        DrownedRooms y = Check.in("house h 1 1;room a h 30 1;room b h 30 1;room d h 30 1;guest e 9 9;guest f 9 9;"
                + "guest g 9 9;quarrel e f;quarrel g f;quarrel e g;sleeps e a 1;sleeps f b 1;sleeps g d 1;");
        c.due("three pairs", y.quarrels(), 3);
    }

    // Promise 30
    private static void brings() {
        DrownedRooms x = base();
        c.due("free nights", x.brings(3), 0);
        x.take(1, 0, 9);
        x.take(2, 3, 4);
        c.due("brings(1)", x.brings(1), 14);
        c.due("brings(2)", x.brings(2), 28);
        c.due("brings(60)", x.brings(60), 46);
        c.due("brings(0)", x.brings(0), -1);
        c.due("brings(61)", x.brings(61), -1);
        c.due("nothing went on", x.now(0), 0);
        x.days(1);
        c.due("what is to come alone", x.brings(60), 32);
    }

    // Promises 31 and 32
    private static void bill() {
        DrownedRooms x = base();
        c.due("ahead of any", x.byteAt(0), -1);
        c.dueText("bill(0)", Check.billOf(x, 0), "anna in klamm for 3 owns 40");
        c.dueText("bill(1)", Check.billOf(x, 1), "ben ashore owns 12");
        c.due("bill(3)", x.bill(3), -1);
        c.due("bill(-1)", x.bill(-1), -1);
        c.due("the latest", x.byteAt(0), 'b');
        c.due("its last", x.byteAt(17), '2');
        c.due("none such", x.byteAt(18), -1);
        c.due("byteAt(-1)", x.byteAt(-1), -1);
        DrownedRooms y = Check.in("house zzzzzzz 1 1;room abcdefg zzzzzzz 30 1;guest zyxwvut 0 9;sleeps zyxwvut abcdefg 30;");
        c.dueText("long names", Check.billOf(y, 0), "zyxwvut in abcdefg for 30 owns 0");
        Check.valley(y, "");
        c.due("the latest in another VALLEY", y.byteAt(31), '0');
    }

    // Promise 33
    private static void drawn() {
        DrownedRooms x = Check.in("lake 50;rain 1 1;storm 12;");
        c.due("drawn(0, 1)", x.drawn(0, 1), -1);
        c.due("drawn(61, 1)", x.drawn(61, 1), -1);
        c.due("drawn(2, 1)", x.drawn(2, 1), 2);
        c.due("a storm each day", x.now(1), 58);
        x.drawn(60, 1);
        c.due("99 at most, then the DAY", x.now(1), 99);
        DrownedRooms y = Check.in("lake 50;rain 1 1;storm 0;");
        y.drawn(60, 5);
        c.due("no storm", y.now(1), 50);
        for (int i = 0; i < 5; i++) {
            y.drawn(60, 5);
        }
        c.due("fewer", y.drawn(60, 5), 40);
        c.due("none", y.drawn(60, 5), 0);
        c.due("none is kept for none", y.undo(), 6);
        drawnStorms();
        drawnGuests();
        drawnLeaving();
    }

    private static int seed;

    private static int draw(int n) {
        seed = seed * 1103515245 + 12345;
        return (seed >>> 8) % n;
    }

    private static void drawnStorms() {
        for (int from = -5; from < 5; from++) {
            DrownedRooms x = Check.in("lake 9;rain 1 1;storm 6;");
            seed = from;
            int level = 9;
            for (int day = 0; day < 9; day++) {
                level += draw(12) < 6 ? 4 : 0;
            }
            x.drawn(9, from);
            c.due("storms by " + from, x.now(1), level);
        }
    }

    private static void drawnGuests() {
        for (int from = 100; from < 160; from++) {
            DrownedRooms x = Check.in("lake 9;rain 1 1;house h 0 0;room a h 9 1;room b h 8 1;room d h 7 1;"
                    + "guest e 50 1;guest f 50 0;");
            seed = from;
            int[] room = {-1, -1};
            for (int g = 0; g < 2; g++) {
                int lot = draw(8);
                int r = lot == 1 ? draw(3) : -1;
                boolean can = r >= 0 && r != room[0] && r <= (g == 0 ? 1 : 0);
                room[g] = can ? r : room[g];
            }
            x.drawn(1, from);
            c.due("e by " + from, x.guest(0, 2), room[0]);
            c.due("f by " + from, x.guest(1, 2), room[1]);
            c.due("nights by " + from, x.guest(0, 3), room[0] < 0 ? 0 : 2);
        }
    }

    /** With 'storm' at 0 the LEVEL stays, so that who leaves and who takes what is drawn alone. */
    private static void drawnLeaving() {
        int left = 0;
        for (int from = 0; from < 60; from++) {
            DrownedRooms x = Check.in("lake 9;rain 1 1;house h 0 0;room a h 9 1;guest e 50 1;sleeps e a 30;");
            seed = from;
            int nights = 30;
            int room = 0;
            for (int day = 0; day < 5; day++) {
                int lot = draw(8);
                if (lot == 1) {
                    draw(1);
                    nights = room < 0 ? 3 : nights;
                    room = 0;
                }
                if (lot == 0) {
                    room = -1;
                    nights = 0;
                    left++;
                }
                draw(12);
                nights -= room < 0 ? 0 : 1;
                room = nights == 0 ? -1 : room;
            }
            x.drawn(5, from);
            c.due("room by " + from, x.guest(0, 2), room);
            c.due("nights by " + from, x.guest(0, 3), nights);
        }
        c.due("some left", left > 5, true);
    }

    // Promise 34
    private static void odds() {
        DrownedRooms x = Check.in("lake 9;rain 1 1;storm 6;house h 0 0;room a h 48 1;room b h 9 1;room d h 89 1;"
                + "guest e 50 1;guest f 50 0;");
        int dry = 0;
        for (int i = 0; i < 30; i++) {
            DrownedRooms y = Check.in("lake 9;rain 1 1;storm 6;house h 0 0;room a h 48 1;room b h 9 1;room d h 89 1;"
                    + "guest e 50 1;guest f 50 0;");
            y.drawn(20, 500 + i);
            dry += y.now(1) <= 48 ? 1 : 0;
        }
        c.due("odds(0, 30, 500)", x.odds(0, 30, 500), dry);
        c.due("some are, some are not", dry > 0 && dry < 30, true);
        c.due("odds(2, 30, 500)", x.odds(2, 30, 500), 30);
        c.due("beyond the greatest int", x.odds(2, 30, Integer.MAX_VALUE), 30);
        c.due("odds(0, 0, 1)", x.odds(0, 0, 1), -1);
        c.due("odds(0, 31, 1)", x.odds(0, 31, 1), -1);
        c.due("odds(3, 1, 1)", x.odds(3, 1, 1), -1);
        c.due("odds(-1, 1, 1)", x.odds(-1, 1, 1), -1);
        c.due("nothing went on", x.now(0), 0);
        c.due("nothing to undo", x.undo(), -1);
    }

    private static void bookFails(String good, String at, int kind) {
        DrownedRooms x = base();
        c.due("book " + good + at, Check.book(x, good + at, 1), -2 - good.length());
        c.due("fault of " + good + at, x.fault(), kind);
        c.due("the tape is empty", x.count(7), 0);
        c.due("nothing was lived", x.now(0), 0);
        c.due("nothing to undo", x.undo(), -1);
        c.due("nothing told", x.told(0), -1);
    }

    // Promise 35
    private static void book() {
        DrownedRooms x = base();
        Check.put(x, "day 1;");
        c.due("book(2)", x.book(2), -1000);
        c.due("book(-1)", x.book(-1), -1000);
        c.due("the tape stays", x.count(7), 6);
        c.due("judged", x.book(0), -1);
        c.due("all stays", x.now(0), 0);
        c.due("nothing to undo", x.undo(), -1);
        c.due("lived", Check.book(x, "ben takes dach 2; day 1 ;anna leaves;wheel 5;day 60;", 1), -1);
        c.due("day", x.now(0), 61);
        c.due("wheel", x.now(2), 5);
        c.due("undone", x.undo(), 0);
        c.due("day 0", x.now(0), 0);
        c.due("WRONG in the third", Check.book(x, "wheel 2;day 3;wheel 2;day 1;", 1), 2);
        c.due("lived as far", x.now(0), 3);
        c.due("an empty book", Check.book(x, "", 1), -1);
        bookFails("", "dora leaves;", 3);
        bookFails("", "dach leaves;", 3);
        bookFails("", "lake 5;", 1);
        bookFails("", "5;", 1);
        bookFails("day 1;", ";", 1);
        bookFails("day ", "0;", 2);
        bookFails("day ", "61;", 2);
        bookFails("wheel ", "6;", 2);
        bookFails("day 1", "", 1);
        bookFails("day ", "ben;", 1);
        bookFails("ben ", "sleeps;", 1);
        bookFails("ben ", "anna;", 1);
        bookFails("ben takes ", "tor 1;", 3);
        bookFails("ben takes ", "wet 1;", 1);
        bookFails("ben takes dach ", "0;", 2);
        bookFails("ben takes dach ", "31;", 2);
        bookFails("ben takes dach ", ";", 1);
        bookFails("ben leaves ", "1;", 1);
        String forty = "day 1;".repeat(40);
        c.due("40 LINES", Check.book(base(), forty, 0), -1);
        bookFails(forty, "day 100;", 4);
        bookFails(forty, "ben leaves;", 4);
        bookFails(forty, "dora leaves;", 3);
        bookFails(forty, "lake;", 1);
        bookFails("day 1" + " ".repeat(395), " ;", 1);
        bookFails("day 1;" + " ".repeat(394), " ", 1);
        c.due("400 bytes", Check.book(base(), "day 1;" + " ".repeat(394), 0), -1);
        bookFails("day 1;" + " ".repeat(392), "dayday;", 3);
        // 'day' begins ahead of the 400th byte, its NUMBER does not.
        DrownedRooms y = base();
        c.due("a long book", Check.book(y, "day 1;" + " ".repeat(393) + "day 1;", 1), -402);
        c.due("fault of a long book", y.fault(), 1);
    }

    private static void toldIs(DrownedRooms x, String text, int wrong, int... told) {
        c.due("book " + text, Check.book(x, text, 0), wrong);
        for (int what = 0; what < 4; what++) {
            c.due("told(" + what + ") of " + text, x.told(what), told[what]);
        }
    }

    // Promise 36
    private static void told() {
        DrownedRooms x = base();
        c.due("ahead of any", x.told(0), -1);
        toldIs(x, "day 3;wheel 0;day 2;", -1, 0, 3, 5, 19);
        toldIs(x, "anna takes dach 1;", 0, 1, 0, 0, 18);
        toldIs(x, "day 1;ben takes klamm 1;", 1, 2, 1, 1, 17);
        toldIs(x, "ben takes keller 1;day 1;", 0, 3, 0, 0, 18);
        toldIs(x, "anna leaves;anna leaves;", 1, 11, 1, 0, 18);
        toldIs(x, "wheel 1;", 0, 21, 0, 0, 18);
        String days = "day 60;".repeat(6);
        toldIs(x, days + "day 40;", -1, 0, 7, 400, 98);
        toldIs(x, days + "day 41;day 1;", 6, 31, 6, 360, 99);
        Check.book(x, "day 0;", 0);
        x.book(7);
        c.due("the latest without a FAULT", x.told(0), 31);
        c.due("told(4)", x.told(4), -1);
        c.due("told(-1)", x.told(-1), -1);
    }

    private static void sentenceFails(String good, String at, int kind) {
        DrownedRooms x = base();
        Check.sentence(x, "number=2");
        c.due("sentence " + good + at, Check.sentence(x, good + at), -1 - good.length());
        c.due("fault of " + good + at, x.fault(), kind);
        c.due("the tape is empty", x.count(7), 0);
        c.due("the SENTENCE stays", x.said(0), 2);
    }

    // Promise 37
    private static void sentence() {
        DrownedRooms x = base();
        c.due("one", Check.sentence(x, "wet"), 1);
        c.due("not", Check.sentence(x, "not wet"), 2);
        c.due("bracket", Check.sentence(x, "( not\nwet or let )and foot<999"), 5);
        sentenceFails("", "", 1);
        sentenceFails(" ", "", 1);
        sentenceFails("", "tor", 1);
        sentenceFails("", "lake", 1);
        sentenceFails("", ")", 1);
        sentenceFails("wet ", ")", 1);
        sentenceFails("wet ", ";", 1);
        sentenceFails("wet ", "let", 1);
        sentenceFails("wet or ", "and let", 1);
        sentenceFails("(wet", "", 1);
        sentenceFails("(wet ", ";", 1);
        sentenceFails("in ", "anna", 3);
        sentenceFails("in ", "nowhere", 3);
        sentenceFails("in ", "nowheres", 1);
        sentenceFails("in ", "dach", 3);
        sentenceFails("in ", "noone", 3);
        sentenceFails("in ", "wet", 1);
        sentenceFails("has ", "tor", 3);
        sentenceFails("has ", "5", 1);
        sentenceFails("foot ", "5", 1);
        sentenceFails("foot ", ";5", 1);
        sentenceFails("foot <", "wet", 1);
        sentenceFails("foot <", "1000", 1);
        sentenceFails("foot <", "", 1);
        String twenty = "wet" + " or let".repeat(19);
        c.due("20 ONES", Check.sentence(x, twenty), 20);
        sentenceFails(twenty + " and ", "not", 4);
        sentenceFails(twenty + " or ", "in in", 4);
        sentenceFails(twenty + " or ", "tor", 1);
        c.due("8 within one another", Check.sentence(x, "not not not ( ( ( not wet ) ) )"), 8);
        c.due("8 within by nots", Check.sentence(x, "not not not not not not not wet"), 8);
        sentenceFails("not not not not not not not not ", "wet", 4);
        sentenceFails("((((((((", "wet))))))))", 4);
        sentenceFails("((((((((", "tor", 1);
        sentenceFails("(((((((wet or let) and not ", "", 1);
        c.due("200 bytes", Check.sentence(x, "wet" + " ".repeat(197)), 1);
        sentenceFails("wet" + " ".repeat(197), " ", 1);
        sentenceFails("wet or" + " ".repeat(194), "let", 1);
        sentenceFails("wet or" + " ".repeat(192), "letter", 1);
    }

    private static void saidOf(DrownedRooms x, String text, int... rooms) {
        Check.sentence(x, text);
        c.due("said(-1) of " + text, x.said(-1), rooms.length);
        for (int k = 0; k < rooms.length; k++) {
            c.due("said(" + k + ") of " + text, x.said(k), rooms[k]);
        }
        c.due("said behind them of " + text, x.said(rooms.length), -1);
    }

    // Promise 38
    private static void said() {
        DrownedRooms x = base();
        c.due("no SENTENCE", x.said(-1), -1);
        c.due("no SENTENCE, no first", x.said(0), -1);
        saidOf(x, "wet", 1, 2);
        saidOf(x, "not wet", 0, 3);
        saidOf(x, "let", 1);
        saidOf(x, "in mole", 2, 3);
        saidOf(x, "has anna", 1);
        saidOf(x, "has ben");
        saidOf(x, "foot<15", 2);
        saidOf(x, "foot=15", 1);
        saidOf(x, "foot>15", 0, 3);
        saidOf(x, "price>3", 0, 3);
        saidOf(x, "depth=0", 0, 3);
        saidOf(x, "depth>3", 2);
        saidOf(x, "number<3", 0, 1, 2);
        saidOf(x, "wet or number=0 and in mole", 1, 2);
        saidOf(x, "(wet or number=0) and in mole", 2);
        saidOf(x, "not wet and in mole", 3);
        saidOf(x, "not (wet and in mole)", 0, 1, 3);
        saidOf(x, "number=0 or number=1 or number=2 and not number=2", 0, 1);
        Check.sentence(x, "wet");
        c.due("said(-2)", x.said(-2), -1);
        x.days(9);
        c.due("as it is now", x.said(-1), 3);
        DrownedRooms y = new DrownedRooms();
        Check.sentence(y, "not wet");
        c.due("no ROOMS", y.said(-1), 0);
    }

    // Promises 39 and 40
    private static void images() {
        DrownedRooms x = base();
        c.due("nothing kept", x.restore(0), false);
        c.due("image(2)", x.image(2), false);
        c.due("image(-1)", x.image(-1), false);
        Check.sentence(x, "let");
        x.take(1, 3, 2);
        c.due("image(0)", x.image(0), true);
        c.due("an image is no act", x.undo(), 0);
        x.take(1, 3, 2);
        c.due("nothing kept in 1", x.restore(1), false);
        c.due("restore(2)", x.restore(2), false);
        c.due("restore(-1)", x.restore(-1), false);
        c.due("a restore that was none", x.undo(), 0);
        x.days(5);
        x.round();
        x.bill(2);
        Check.book(x, "wheel 1;", 0);
        Check.valley(x, "lake 7;rain 9 9;mill 8;storm 7;house other 9 9;room only other 3 3;guest one 3 3;");
        Check.sentence(x, "wet");
        x.image(1);
        Check.valley(x, "lake 100;");
        x.wheel(3);
        x.feed(0, 0, 0, 0, 0);
        c.due("restore(0)", x.restore(0), true);
        c.due("nothing can be undone", x.undo(), -1);
        c.due("the tape stays", x.count(7), 20);
        c.due("fault stays", x.fault(), 2);
        c.due("told stays", x.told(0), 21);
        c.due("round stays", x.roundAt(0), -1);
        c.due("bill stays", x.byteAt(0), 'c');
        c.due("level", x.now(1), 18);
        c.due("wheel", x.now(2), 1);
        c.due("let", x.now(5), 10);
        c.due("sentence", x.said(-1), 2);
        c.due("rooms", x.count(1), 4);
        c.due("foes", x.guest(0, 5), 2);
        c.dueText("names", Check.billOf(x, 0), "anna in klamm for 3 owns 40");
        c.due("names are told again", Check.book(x, "ben leaves;", 0), -1);
        x.days(3);
        c.due("restore(1)", x.restore(1), true);
        c.due("level 7", x.now(1), 7);
        c.due("storm 7", x.count(6), 7);
        c.due("sentence of 1", x.said(-1), 1);
        c.due("again", x.restore(0), true);
        c.due("as kept, whatever was done then", x.now(0), 0);
        c.due("guest as kept", x.guest(1, 3), 2);
        DrownedRooms y = base();
        y.image(1);
        Check.sentence(y, "wet");
        y.restore(1);
        c.due("no SENTENCE was kept", y.said(-1), -1);
    }

    /** As many of each sort as there may be, and numbers at the ends of their ranges. */
    private static void fullValley() {
        StringBuilder text = new StringBuilder("lake 0;rain 1 0;mill 0;storm 0;");
        for (int i = 0; i < 5; i++) {
            text.append("house h").append((char) ('a' + i)).append(' ').append(4 * i + 4).append(' ').append(20 - 5 * i);
            text.append(';');
        }
        for (int i = 0; i < 8; i++) {
            text.append("room r").append((char) ('a' + i)).append(" h").append((char) ('a' + i % 5)).append(" 0 30;");
        }
        for (int i = 0; i < 6; i++) {
            text.append("guest g").append((char) ('a' + i)).append(" 30 0;");
        }
        for (int i = 0; i < 6; i++) {
            text.append("sleeps g").append((char) ('a' + i)).append(" r").append((char) ('a' + i)).append(" 2;");
        }
        text.append("quarrel ga gf;quarrel gb gf;");
        DrownedRooms x = Check.in(text.toString());
        c.due("a full VALLEY", x.fault(), 0);
        c.due("nothing is wet", x.now(4), 0);
        c.due("six are let", x.now(5), 63);
        c.due("the eighth", x.room(7, 0), 2);
        c.due("the sixth", x.room(5, 4), 5);
        c.due("nobody", x.room(7, 4), -1);
        c.due("all others", x.visits(5), 31);
        c.due("far from foes", x.quiet(5), 128);
        c.due("one pair in one house", x.quarrels(), 1);
        c.due("all pay", x.brings(1), 180);
        c.due("only once", x.brings(60), 180);
        c.due("through five houses", x.round() > 0 && x.roundAt(4) >= 0 && x.roundAt(5) < 0, true);
        Check.sentence(x, "not wet");
        c.due("all eight", x.said(-1), 8);
        c.due("the last of eight", x.said(7), 7);
        Check.putBytes(x, 5, 0, 1, 5, 0, 1, 5, 0, 1, 5, 0, 1, 5, 0, 1);
        c.due("five stays", x.stays(), 5);
        c.due("the fifth", x.stayAt(4), 4);
        Check.putBytes(x, 7, 0);
        c.due("one LEVEL", x.marks(), 1);
        c.due("the lowest", x.lowest(), 0);
        c.due("the highest", x.highest(), 0);
        x.days(1);
        c.due("a purse of just the price", x.guest(5, 0), 0);
        c.due("all brought", x.now(6), 180);
        x.undo();
        c.due("the mills are undone", x.now(3), 0);
        c.due("the purse is undone", x.guest(5, 0), 30);
        Check.valley(x, "house q 0 0;room p q 0 1;guest o 1 20;sleeps o p 9;");
        c.due("brought nothing in a new VALLEY", x.now(6), 0);
        c.due("no quarrels in a new VALLEY", x.guest(0, 5), 0);
        x.days(1);
        c.due("a wet night", x.guest(0, 4), 1);
        x.undo();
        c.due("a wet night undone", x.guest(0, 4), 0);
        x.days(1);
        Check.valley(x, "guest o 1 20;");
        c.due("no wet night in a new VALLEY", x.guest(0, 4), 0);
        c.due("lived", Check.book(base(), "ben takes dach 9;day 1;ben takes dach 9;", 1), 2);
        DrownedRooms y = base();
        Check.book(y, "ben takes dach 9;day 1;", 1);
        c.due("he has it", y.guest(1, 3), 8);
    }

    /** What can be done while one DAY is left, and when none is. */
    private static void lastDay() {
        DrownedRooms x = Check.in("lake 5;rain 30 9;mill 0;house h 0 0;room r h 0 1;room s h 99 1;guest g 9 20;");
        x.wheel(0);
        Check.book(x, "day 60;day 60;day 60;day 60;day 60;day 60;day 39;", 1);
        c.due("the day ahead of the last", x.now(0), 399);
        c.due("dry(1, 1)", x.dry(1, 1), 1);
        c.due("level(1)", x.level(1), 99);
        c.due("plan(1, 1)", x.plan(1, 1), 5);
        c.due("plan(1, 2)", x.plan(1, 2), -1);
        c.due("odds of one", x.odds(1, 1, 3), 1);
        c.due("fewer than 20 DAYS", x.odds(1, 30, 3), 30);
        Check.putBytes(x, 0, 0, 1, 0, 0, 2);
        c.due("a stay until the end", x.stays(), 1);
        c.due("days(60)", x.days(60), 1);
        c.due("can be undone", x.undo(), 2);
        c.due("drawn(60, 1)", x.drawn(60, 1), 1);
        c.due("drawn can be undone", x.undo(), 2);
        x.days(1);
        c.due("no day", x.days(1), 0);
        c.due("no drawn day", x.drawn(1, 1), 0);
        c.due("the latest that was done", x.undo(), 2);
        c.due("dry of none", x.dry(1, 1), 1);
        x.days(1);
        c.due("dry behind all", x.dry(1, 60), 0);
        c.due("wet now, behind all", x.wets(0), 0);
        c.due("brings nothing", x.brings(60), 0);
        c.due("no plan", x.plan(1, 1), -1);
        Check.putBytes(x, 0, 0, 1);
        c.due("no stay", x.stays(), 0);
        c.due("all the same, he takes it", x.take(0, 1, 1), 0);
        DrownedRooms y = Check.in("lake 0;rain 25 1;house h 0 0;room r h 15 1;");
        y.wheel(0);
        Check.book(y, "day 60;day 60;day 60;day 60;day 60;day 60;", 1);
        c.due("14 DAYS of rain", y.now(1), 14);
        c.due("15 and 16 are to come", y.wets(0), 40);
    }

    // Promise 41
    private static void count() {
        DrownedRooms x = Check.in("rain 5 6;mill 44;storm 3;house a 1 1;house b 1 1;room d a 1 1;guest e 1 1;"
                + "guest f 1 1;guest g 1 1;");
        x.feed(0, 0, 0, 0, 0);
        int[] due = {2, 1, 3, 5, 6, 44, 3, 20};
        for (int what = 0; what < 8; what++) {
            c.due("count(" + what + ")", x.count(what), due[what]);
        }
        c.due("count(8)", x.count(8), -1);
        c.due("count(-1)", x.count(-1), -1);
    }
}
