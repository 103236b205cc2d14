import java.util.function.IntUnaryOperator;

/** "Promise 1" to "Promise 41", sentence by sentence, and for how many calls an object is used. */
public final class CallsEdgeTest {
    /** Behind each DAY, from the first on: 17, 16, 19, 18, 17, 20, 19, 18, 21, .. */
    private static final String BASE = "lake 18;rain 3 4;mill 15;house tor 2 3;house mole 10 1;room dach tor 20 5;"
            + "room klamm tor 15 2;room keller mole 12 3;room giebel mole 30 9;guest anna 40 5;guest ben 12 0;"
            + "guest cora 90 2;quarrel anna ben;sleeps anna klamm 3;";

    private static final int MAX = Integer.MAX_VALUE;
    private static final int MIN = Integer.MIN_VALUE;

    private static final Check c = new Check();

    public static void main(String[] args) {
        newObject();
        feed();
        end();
        valley();
        fault();
        room();
        guest();
        now();
        take();
        leave();
        wheel();
        days();
        undo();
        level();
        dry();
        wets();
        stays();
        stayAt();
        plan();
        planAt();
        round();
        roundAt();
        marks();
        lowest();
        visits();
        quiet();
        quarrels();
        brings();
        bill();
        byteAt();
        drawn();
        odds();
        book();
        told();
        sentence();
        said();
        image();
        restore();
        count();
        full();
        lastCalls();
        c.close("CallsEdgeTest");
    }

    private static DrownedRooms base() {
        return Check.in(BASE);
    }

    /** BASE with something told by each call that tells more later, and a SENTENCE. */
    private static DrownedRooms busy() {
        DrownedRooms x = base();
        Check.sentence(x, "wet");
        Check.putBytes(x, 0, 0, 1, 0, 0, 1);
        x.stays();
        Check.putBytes(x, 1, 1, 0, 0);
        x.marks();
        x.plan(0, 3);
        x.round();
        x.bill(1);
        Check.book(x, "wheel 0;anna takes dach 1;", 0);
        return x;
    }

    /** BASE when so many DAYS are over. */
    private static DrownedRooms behind(int days) {
        DrownedRooms x = base();
        go(x, days);
        return x;
    }

    private static void go(DrownedRooms x, int days) {
        for (int left = days; left > 0; left -= 60) {
            x.days(Math.min(left, 60));
        }
    }

    /** Each of these answers NONE and changes nothing. */
    private static void none(String call, DrownedRooms x, IntUnaryOperator answer, int... args) {
        String before = Seen.all(x);
        for (int n : args) {
            c.due(call + " of " + n, answer.applyAsInt(n), -1);
        }
        c.dueText("all behind " + call, Seen.all(x), before);
    }

    private interface Asked {
        int of(DrownedRooms x, int n);
    }

    /** The same of a village of its own, in which nothing was done, and none of these is an act. */
    private static void refused(String call, Asked asked, int... args) {
        DrownedRooms x = busy();
        none(call, x, n -> asked.of(x, n), args);
        c.due("undo behind " + call, x.undo(), -1);
    }

    private static void promise(int n) {
        c.reads(Document.promise(n));
    }

    private static void newObject() {
        promise(1);
        c.says("A VALLEY without HOUSES");
        DrownedRooms x = new DrownedRooms();
        int[] counts = {0, 0, 0, 7, 3, 15, 0};
        for (int what = 0; what < 7; what++) {
            c.due("count(" + what + ")", x.count(what), counts[what]);
        }
        int[] now = {0, 20, 1, 0, 0, 0, 0};
        for (int what = 0; what < 7; what++) {
            c.due("now(" + what + ")", x.now(what), now[what]);
        }
        c.noSuchRoom(x, 0, 0);
        c.noSuchGuest(x, 0, 0);
        c.due("no SENTENCE", x.said(-1), -1);
        c.due("nothing to undo", x.undo(), -1);
        c.due("its LEVEL goes on", x.level(7), 16);
        c.due("its DAYS go by", x.days(7), 7);
        c.due("its mills run", x.now(3), 6);
        c.says("an empty tape");
        c.due("count(7)", new DrownedRooms().count(7), 0);
        c.due("end(1)", new DrownedRooms().end(1), false);
    }

    private static void feed() {
        promise(2);
        c.says("Twenty bytes come behind the tape, of each number the highest first: how many it has");
        DrownedRooms x = new DrownedRooms();
        c.due("feed", x.feed(0x6c616b65, 0x2037373b, 0x7261696e, 0x20352036, 0x3b6d696c), 20);
        c.due("feed", x.feed(0x6c203838, 0x3b73746f, 0x726d2031, 0x323b2020, 0x2020203f), 40);
        x.end(39);
        c.due("all bytes in their order", x.valley(), 4);
        c.due("lake 77", x.now(1), 77);
        c.due("rain 5 6", 10 * x.count(3) + x.count(4), 56);
        c.due("mill 88", x.count(5), 88);
        c.due("storm 12", x.count(6), 12);
        x.feed(0, 0, 0, 0, 0);
        x.end(5);
        c.due("behind five", x.feed(0, 0, 0, 0, 0), 25);
        DrownedRooms y = Check.in("house h 0 0;room a h 0 1;guest g 0 0;");
        y.feed(0x00ff0100, 0, 0, 0, 0);
        y.end(3);
        c.due("a byte above 127", y.stays(), 1);
        y.feed(-1, -1, -1, -1, -1);
        y.end(3);
        c.due("all bits", y.stays(), -1);
        c.says("NONE, and none come, if it would have more than 940");
        Check.put(x, "lake 5;" + " ".repeat(933));
        c.due("940 stand", x.count(7), 940);
        c.due("at 940", x.feed(0x3f3f3f3f, 0x3f3f3f3f, 0x3f3f3f3f, 0x3f3f3f3f, 0x3f3f3f3f), -1);
        c.due("none came", x.count(7), 940);
        x.end(921);
        c.due("at 921", x.feed(0x3f3f3f3f, 0x3f3f3f3f, 0x3f3f3f3f, 0x3f3f3f3f, 0x3f3f3f3f), -1);
        c.due("none came", x.count(7), 921);
        x.end(920);
        c.due("at 920", x.feed(0, 0, 0, 0, 0), 940);
        x.end(900);
        c.due("those that stood still stand", x.valley(), 1);
    }

    private static void end() {
        promise(3);
        c.says("The tape has its first n bytes alone: true");
        DrownedRooms x = new DrownedRooms();
        c.due("end(0) of none", x.end(0), true);
        Check.put(x, "lake 5;mill 6;rain 7");
        c.due("end of all", x.end(20), true);
        c.due("20", x.count(7), 20);
        c.due("end(14)", x.end(14), true);
        c.due("14", x.count(7), 14);
        c.due("the first 14", x.valley(), 2);
        Check.put(x, "lake 5;mill 6;rain 7");
        x.end(7);
        x.feed(0x20202020, 0x20202020, 0x20202020, 0x20202020, 0x20202020);
        c.due("those behind are gone", x.valley(), 1);
        Check.put(x, "lake 55;");
        x.end(6);
        c.due("a TOKEN ends where the tape does", x.valley(), -7);
        Check.put(x, "wets");
        x.end(3);
        c.due("a WORD ends where the tape does", x.sentence(), 1);
        Check.put(x, "lake 5;");
        c.due("end(0)", x.end(0), true);
        c.due("none is left", x.count(7), 0);
        c.says("false, if it has not so many, or n is below 0");
        Check.put(x, "lake 5;");
        for (int n : new int[] {8, 20, 940, 941, MAX, -1, -7, MIN}) {
            c.due("end(" + n + ")", x.end(n), false);
            c.due("7 behind end(" + n + ")", x.count(7), 7);
        }
        c.due("they stand", x.valley(), 1);
        c.due("end(1) of none", x.end(1), false);
    }

    private static void valley() {
        promise(4);
        c.says("The tape (empty then, here and below) is the VALLEY now: how many LINES");
        DrownedRooms x = base();
        c.due("none", Check.valley(x, ""), 0);
        c.due("no ROOM", x.count(1), 0);
        c.due("14", Check.valley(x, BASE), 14);
        c.due("four ROOMS", x.count(1), 4);
        c.due("an empty tape", x.count(7), 0);
        c.due("an empty tape is a VALLEY", x.valley(), 0);
        String[] texts = {"lake 5;", "day 1;", "wet", "\0\0\1", "\0\0"};
        for (int which = 0; which < 5; which++) {
            for (int good = 0; good < 2; good++) {
                DrownedRooms y = base();
                Check.put(y, good == 1 ? texts[which] : "?");
                int answer = which == 0 ? y.valley() : which == 1 ? y.book(good) : which == 2 ? y.sentence()
                        : which == 3 ? y.stays() : y.marks();
                c.due("good or not " + which, answer >= 0 || which == 1 && answer == -1, good == 1);
                c.due("empty behind " + which, y.count(7), 0);
                c.due("end(1) behind " + which, y.end(1), false);
            }
        }
        c.says("-1 less the place of a FAULT: it stays.");
        DrownedRooms y = busy();
        y.wheel(0);
        y.days(1);
        String before = Seen.world(y) + Seen.told(y);
        c.due("at 0", Check.valley(y, "?"), -1);
        c.due("at 12", Check.valley(y, "house a 1 1;house a 1 1;"), -1 - 18);
        c.due("at the end", Check.valley(y, "lake"), -1 - 4);
        c.due("at 900", Check.valley(y, " ".repeat(901)), -901);
        c.dueText("it stays", Seen.world(y) + Seen.told(y), before);
        c.due("what was done can be undone", y.undo(), 1);
        c.due("DAY 0", y.now(0), 0);
    }

    private static void fault() {
        promise(5);
        c.says("The kind of the FAULT of the latest valley(), book() or sentence()");
        DrownedRooms x = base();
        Check.valley(x, "?");
        c.due("valley, 1", x.fault(), 1);
        Check.book(x, "day 61;", 0);
        c.due("book(0), 2", x.fault(), 2);
        Check.sentence(x, "in nowhere");
        c.due("sentence, 3", x.fault(), 3);
        Check.book(x, "day 1;".repeat(41), 1);
        c.due("book(1), 4", x.fault(), 4);
        Check.put(x, "\0\0\1");
        x.stays();
        Check.put(x, "?");
        x.marks();
        x.days(1);
        x.undo();
        x.image(0);
        x.restore(0);
        c.due("other calls leave it", x.fault(), 4);
        c.says("(a book() of -1000 leaves it)");
        c.due("book(2)", x.book(2), -1000);
        c.due("4 is left", x.fault(), 4);
        c.says("0 without one and ahead of any");
        c.due("ahead of any", new DrownedRooms().fault(), 0);
        Check.book(x, "wheel 1;", 0);
        c.due("a WRONG LINE is no FAULT", x.fault(), 0);
        Check.valley(x, "?");
        Check.sentence(x, "wet");
        c.due("sentence without", x.fault(), 0);
        Check.sentence(x, "?");
        Check.valley(x, "");
        c.due("valley without", x.fault(), 0);
        c.due("book(2)", x.book(2), -1000);
        c.due("0 is left", x.fault(), 0);
    }

    private static void room() {
        promise(6);
        c.says("Of a ROOM: 0 its HOUSE, 1 FOOT, 2 PRICE, 3 DEPTH (0: it is dry), 4 who has it (NONE),"
                + " 5 what it brought so far.");
        DrownedRooms x = base();
        int[][] due = {{0, 20, 5, 0, -1, 0}, {0, 15, 2, 3, 0, 0}, {1, 12, 3, 6, -1, 0}, {1, 30, 9, 0, -1, 0}};
        for (int r = 0; r < 4; r++) {
            for (int what = 0; what < 6; what++) {
                c.due("room(" + r + ", " + what + ")", x.room(r, what), due[r][what]);
            }
        }
        x.take(2, 3, 2);
        x.days(3);
        c.due("two nights", x.room(3, 5), 18);
        c.due("nobody has it any more", x.room(3, 4), -1);
        x.take(2, 3, 1);
        x.days(1);
        c.due("and one", x.room(3, 5), 27);
        c.says("NoSuchElementException: no such ones.");
        for (int r : new int[] {-1, 4, 7, 8, MAX, MIN}) {
            for (int what = -1; what < 7; what++) {
                c.noSuchRoom(x, r, what);
            }
        }
        for (int what : new int[] {-1, 6, 7, MAX, MIN}) {
            c.noSuchRoom(x, 0, what);
            c.noSuchRoom(x, 3, what);
        }
    }

    private static void guest() {
        promise(7);
        c.says("Of a GUEST: 0 PURSE, 1 BREATH, 2 his ROOM (NONE), 3 nights that are left (0: he has none),"
                + " 4 WET nights so far, 5 with whom he quarrels, as bits.");
        DrownedRooms x = base();
        int[][] due = {{40, 5, 1, 3, 0, 2}, {12, 0, -1, 0, 0, 1}, {90, 2, -1, 0, 0, 0}};
        for (int g = 0; g < 3; g++) {
            for (int what = 0; what < 6; what++) {
                c.due("guest(" + g + ", " + what + ")", x.guest(g, what), due[g][what]);
            }
        }
        x.days(2);
        c.due("one is left", x.guest(0, 3), 1);
        c.due("two were WET", x.guest(0, 4), 2);
        x.days(1);
        c.due("he has none", x.guest(0, 3), 0);
        c.due("nor a ROOM", x.guest(0, 2), -1);
        x.take(0, 1, 1);
        x.days(1);
        c.due("so far, in another stay too", x.guest(0, 4), 4);
        c.says("NoSuchElementException: no such ones.");
        for (int g : new int[] {-1, 3, 5, 6, MAX, MIN}) {
            for (int what = -1; what < 7; what++) {
                c.noSuchGuest(x, g, what);
            }
        }
        for (int what : new int[] {-1, 6, 7, MAX, MIN}) {
            c.noSuchGuest(x, 0, what);
            c.noSuchGuest(x, 2, what);
        }
    }

    private static void now() {
        promise(8);
        c.says("0 the DAY, 1 the LEVEL, 2 where the WHEEL is, 3 what the mills have, 4 ROOMS that are WET,"
                + " 5 that somebody has, as bits, 6 what all ROOMS brought so far.");
        DrownedRooms x = base();
        int[] first = {0, 18, 1, 0, 6, 2, 0};
        for (int what = 0; what < 7; what++) {
            c.due("now(" + what + ")", x.now(what), first[what]);
        }
        x.take(1, 0, 9);
        x.take(2, 3, 9);
        x.wheel(2);
        x.days(2);
        int[] then = {2, 14, 2, 4, 4, 11, 30};
        for (int what = 0; what < 7; what++) {
            c.due("now(" + what + ") behind two DAYS", x.now(what), then[what]);
        }
        c.says("NONE for another what.");
        none("now", x, what -> x.now(what), -1, 7, 8, MAX, MIN);
    }

    private static void take() {
        promise(9);
        c.says("A GUEST TAKES a ROOM for n (1 to 30) nights: 0, or why not");
        DrownedRooms x = busy();
        String before = Seen.all(x);
        c.due("1", x.take(0, 0, 1), 1);
        c.due("2", x.take(1, 1, 30), 2);
        c.due("3", x.take(2, 2, 1), 3);
        c.dueText("nothing was done", Seen.all(x), before);
        c.due("for one", x.take(1, 0, 1), 0);
        c.due("one is left", x.guest(1, 3), 1);
        c.due("for 30", x.take(2, 3, 30), 0);
        c.due("30 are left", x.guest(2, 3), 30);
        c.says("NONE: no such ones.");
        refused("no such GUEST", (y, g) -> y.take(g, 0, 1), -1, 3, 6, MAX, MIN);
        refused("no such ROOM", (y, r) -> y.take(1, r, 1), -1, 4, 8, MAX, MIN);
        refused("not so many nights", (y, n) -> y.take(1, 0, n), 0, -1, 31, MAX, MIN);
        refused("not so many nights, who has one", (y, n) -> y.take(0, 1, n), 0, 31);
        refused("no such ROOM, who has one", (y, r) -> y.take(0, r, 1), -1, 4);
        DrownedRooms z = new DrownedRooms();
        none("there is none", z, g -> z.take(g, 0, 1), 0);
    }

    private static void leave() {
        promise(10);
        c.says("He LEAVES: 0, or why not");
        DrownedRooms x = busy();
        String before = Seen.all(x);
        c.due("he has none", x.leave(1), 1);
        c.dueText("nothing was done", Seen.all(x), before);
        c.due("0", x.leave(0), 0);
        c.due("no ROOM is let", x.now(5), 0);
        c.says("NONE: no such one.");
        refused("leave", (y, g) -> y.leave(g), -1, 3, 6, MAX, MIN);
        DrownedRooms z = new DrownedRooms();
        none("there is none", z, g -> z.leave(g), 0);
    }

    private static void wheel() {
        promise(11);
        c.says("The WHEEL is turned to n (0 to 5): 0, or why not");
        DrownedRooms x = busy();
        String before = Seen.all(x);
        c.due("it is there", x.wheel(1), 1);
        c.dueText("nothing was done", Seen.all(x), before);
        for (int n : new int[] {0, 1, 2, 3, 4, 5}) {
            c.due("wheel(" + n + ")", x.wheel(n), 0);
            c.due("it is at " + n, x.now(2), n);
        }
        c.says("NONE: not as told.");
        refused("wheel", (y, n) -> y.wheel(n), -1, 6, MAX, MIN);
    }

    private static void days() {
        promise(12);
        c.says("n (1 to 60) DAYS go by: how many did");
        DrownedRooms x = base();
        c.due("days(1)", x.days(1), 1);
        c.due("days(60)", x.days(60), 60);
        c.due("61 went by", x.now(0), 61);
        go(x, 338);
        c.due("399", x.now(0), 399);
        c.due("one is left", x.days(2), 1);
        c.due("400", x.now(0), 400);
        String before = Seen.all(x);
        c.due("none is left", x.days(1), 0);
        c.due("none of 60", x.days(60), 0);
        c.dueText("nothing went on", Seen.all(x), before);
        c.says("NONE: not as told.");
        refused("days", (y, n) -> y.days(n), 0, -1, 61, MAX, MIN);
        none("days behind all", x, n -> x.days(n), 0, 61);
    }

    private static void undone(String call, DrownedRooms x, String before, int more) {
        c.due("undo of " + call, x.undo(), more);
        c.dueText("all behind undo of " + call, Seen.world(x), before);
    }

    private static void undoneActs() {
        DrownedRooms x = base();
        String ahead = Seen.world(x);
        x.take(2, 3, 5);
        String taken = Seen.world(x);
        x.leave(0);
        String left = Seen.world(x);
        x.wheel(3);
        undone("wheel()", x, left, 2);
        undone("leave()", x, taken, 1);
        undone("take()", x, ahead, 0);
    }

    private static void undoneDays() {
        DrownedRooms x = base();
        x.take(2, 3, 5);
        String ahead = Seen.world(x);
        x.days(2);
        String later = Seen.world(x);
        x.drawn(4, 1);
        String drawn = Seen.world(x);
        Check.book(x, "wheel 0;day 3;ben takes dach 2;wheel 0;day 1;", 1);
        undone("book(1)", x, drawn, 3);
        undone("drawn()", x, later, 2);
        undone("days()", x, ahead, 1);
    }

    private static void undoneLeaves() {
        DrownedRooms x = busy();
        x.days(2);
        x.feed(1, 2, 3, 4, 5);
        String told = Seen.told(x) + x.fault();
        x.undo();
        c.due("the tape stays", x.count(7), 20);
        c.due("the SENTENCE stays", x.said(-1), 2);
        c.dueText("what was told stays", Seen.told(x) + x.fault(), told);
    }

    private static void undo() {
        promise(13);
        c.says("The latest of take(), leave(), wheel() that was done, days() above 0, drawn() above 0,"
                + " a BOOK that was lived is undone: how many more can be");
        undoneActs();
        undoneDays();
        undoneLeaves();
        notUndone();
        c.says("(8 at most are kept)");
        DrownedRooms y = base();
        for (int i = 0; i < 9; i++) {
            y.days(1);
        }
        for (int more = 7; more >= 0; more--) {
            c.due("undo", y.undo(), more);
            c.due("the DAY", y.now(0), more + 1);
        }
        c.due("the ninth is not kept", y.undo(), -1);
        c.due("the DAY", y.now(0), 1);
        for (int i = 0; i < 8; i++) {
            y.days(1);
        }
        c.due("of eight", y.undo(), 7);
        y.wheel(5);
        c.due("in its place", y.undo(), 7);
        c.due("the WHEEL", y.now(2), 1);
        c.says("NONE: none is.");
        DrownedRooms z = base();
        none("undo", z, n -> z.undo(), 0, 0);
        z.wheel(2);
        c.due("the one", z.undo(), 0);
        none("undo behind it", z, n -> z.undo(), 0, 0);
    }

    /** Calls that were refused, that only ask, or by which no DAY went by. */
    private static void notUndone() {
        DrownedRooms x = behind(400);
        for (int i = 0; i < 7; i++) {
            x.undo();
        }
        c.due("DAY 0", x.now(0), 0);
        x.take(0, 0, 1);
        x.take(2, 2, 1);
        x.leave(1);
        x.wheel(1);
        x.wheel(6);
        x.days(0);
        x.drawn(0, 1);
        x.drawn(61, 1);
        x.odds(0, 30, 1);
        x.brings(60);
        x.plan(0, 5);
        Check.book(x, "wheel 0;day 1;", 0);
        Check.book(x, "wheel 0;day 1;?", 1);
        x.book(2);
        x.image(0);
        x.restore(1);
        c.due("none was done", x.undo(), -1);
        DrownedRooms y = behind(400);
        y.days(1);
        y.drawn(1, 1);
        c.due("no DAY went by", y.undo(), 6);
        c.due("the latest that did is undone", y.now(0), 360);
        DrownedRooms z = behind(399);
        c.due("the last DAY", z.days(60), 1);
        z.undo();
        c.due("it is undone", z.now(0), 399);
        c.due("the last DAY, DRAWN", z.drawn(60, 1), 1);
        z.undo();
        c.due("it is undone too", z.now(0), 399);
    }

    private static void level() {
        promise(14);
        c.says("The LEVEL behind n (0 to 60) DAYS");
        DrownedRooms x = base();
        int[] due = {18, 17, 16, 19, 18, 17, 20, 19, 18, 21};
        for (int n = 0; n < due.length; n++) {
            c.due("level(" + n + ")", x.level(n), due[n]);
        }
        c.due("level(60)", x.level(60), 38);
        c.says("NONE: fewer are left, not as told.");
        none("level", x, n -> x.level(n), -1, 61, MAX, MIN);
        DrownedRooms y = behind(340);
        c.due("60 are left", y.level(60), 98);
        DrownedRooms z = behind(341);
        c.due("59 are left", z.level(59), 98);
        none("59 are left, level", z, n -> z.level(n), 60);
        DrownedRooms w = behind(400);
        c.due("level(0) behind all", w.level(0), 98);
        none("level behind all", w, n -> w.level(n), 1, 60);
    }

    private static void dry() {
        promise(15);
        c.says("DRY of a ROOM in k (1 to 60) DAYS");
        DrownedRooms x = base();
        c.due("dry(0, 1)", x.dry(0, 1), 1);
        c.due("dry(0, 9)", x.dry(0, 9), 8);
        c.due("dry(3, 60)", x.dry(3, 60), 41);
        c.says("(fewer, if all are over)");
        DrownedRooms y = Check.in("rain 1 1;house h 0 0;room r h 20 1;");
        go(y, 399);
        c.due("one is left", y.dry(0, 1), 1);
        c.due("one of two", y.dry(0, 2), 1);
        c.due("one of 60", y.dry(0, 60), 1);
        y.days(1);
        c.due("none is left", y.dry(0, 60), 0);
        c.due("none of one", y.dry(0, 1), 0);
        c.says("NONE: no such ones.");
        none("no such ROOM", x, r -> x.dry(r, 1), -1, 4, 8, MAX, MIN);
        none("not as told", x, k -> x.dry(0, k), 0, -1, 61, MAX, MIN);
        none("not as told behind all", y, k -> y.dry(0, k), 0, 61);
    }

    private static void wets() {
        promise(16);
        c.says("Behind how many DAYS a ROOM is WET first (0: it is now; 60 at most)");
        DrownedRooms x = base();
        c.due("it is now", x.wets(1), 0);
        c.due("behind nine", x.wets(0), 9);
        DrownedRooms y = Check.in("lake 0;rain 30 9;house h 0 0;room a h 0 1;room b h 8 1;room d h 9 1;room e h 17 1;room f h 18 1;");
        y.wheel(0);
        c.due("a", y.wets(0), 30);
        c.due("b, by one", y.wets(1), 30);
        c.due("d, as high as its FOOT behind 30", y.wets(2), 60);
        c.due("e, behind 60", y.wets(3), 60);
        c.says("NONE: not so soon, fewer are left, no such one.");
        c.due("f, not so soon", y.wets(4), -1);
        y.days(29);
        c.due("a, behind one", y.wets(0), 1);
        c.due("f, behind 61 is not so soon", y.wets(4), -1);
        y.days(1);
        c.due("f, behind 60", y.wets(4), 60);
        none("no such one", y, r -> y.wets(r), -1, 5, 8, MAX, MIN);
        DrownedRooms z = Check.in("lake 0;rain 25 1;house h 0 0;room a h 15 1;room b h 16 1;");
        z.wheel(0);
        go(z, 360);
        c.due("behind the last", z.wets(0), 40);
        c.due("not any more", z.wets(1), -1);
        z.days(40);
        c.due("it is now, behind all", z.wets(0), 0);
        c.due("fewer are left", z.wets(1), -1);
    }

    private static void stays() {
        promise(17);
        c.says("STAYS: how many");
        DrownedRooms x = base();
        Check.putBytes(x, 0, 0, 6, 1, 0, 9, 2, 2, 3);
        c.due("two of three", x.stays(), 2);
        Check.putBytes(x, 0, 250, 30);
        c.due("none of one", x.stays(), 0);
        Check.putBytes(x, 0, 0, 1, 0, 1, 1, 0, 2, 1, 0, 3, 1, 0, 4, 1);
        c.due("five of five", x.stays(), 5);
        c.says("NONE: not as told.");
        int[][] wrong = {{}, {0}, {0, 0}, {0, 0, 0}, {0, 0, 31}, {3, 0, 1}, {0, 0, 1, 0}, {0, 0, 1, 0, 0, 0},
            {0, 0, 1, 0, 0, 1, 0, 0, 1, 0, 0, 1, 0, 0, 1, 0, 0, 1}};
        DrownedRooms y = busy();
        String before = Seen.all(y);
        for (int[] bytes : wrong) {
            Check.putBytes(y, bytes);
            c.due(bytes.length + " bytes", y.stays(), -1);
        }
        c.dueText("all", Seen.all(y), before);
    }

    private static void stayAt() {
        promise(18);
        c.says("The ROOM of the k-th STAY (from 0) by the latest stays() that was not NONE");
        DrownedRooms x = base();
        none("ahead of any", x, k -> x.stayAt(k), 0, 1, -1);
        Check.putBytes(x, 0, 0, 6, 1, 0, 9, 2, 2, 3);
        x.stays();
        c.due("the first", x.stayAt(0), 0);
        c.due("the second", x.stayAt(1), 3);
        Check.putBytes(x, 0, 0, 31);
        x.stays();
        c.due("by the latest that was not NONE", x.stayAt(1), 3);
        c.says("NONE: none, none such, or ahead of any.");
        c.due("none", x.stayAt(2), -1);
        none("none such", x, k -> x.stayAt(k), -1, 3, 4, 5, MAX, MIN);
        Check.putBytes(x, 0, 0, 1, 0, 0, 1, 0, 0, 1, 0, 0, 1, 0, 1, 1);
        x.stays();
        c.due("the fifth", x.stayAt(4), 0);
        c.due("no sixth", x.stayAt(5), -1);
        Check.putBytes(x, 0, 0, 1);
        x.stays();
        c.due("no second now", x.stayAt(1), -1);
        c.due("no fifth now", x.stayAt(4), -1);
        Check.putBytes(x, 0, 255, 30);
        c.due("0 is not NONE", x.stays(), 0);
        c.due("none by it", x.stayAt(0), -1);
    }

    private static void plan() {
        promise(19);
        c.says("PLAN for a ROOM in k (1 to 5) DAYS: how much");
        DrownedRooms x = base();
        c.due("plan(3, 1)", x.plan(3, 1), 5);
        c.due("plan(3, 5)", x.plan(3, 5), 12);
        c.says("NONE: by none, fewer DAYS are left, no such ones.");
        refused("by none", (y, k) -> y.plan(2, k), 1, 2, 3, 4, 5);
        refused("no such ROOM", (y, r) -> y.plan(r, 1), -1, 4, 8, MAX, MIN);
        refused("not as told", (y, k) -> y.plan(3, k), 0, -1, 6, MAX, MIN);
        DrownedRooms z = Check.in("rain 1 1;house h 0 0;room r h 20 1;");
        go(z, 395);
        c.due("five are left", z.plan(0, 5) >= 0, true);
        z.days(1);
        none("four are left", z, k -> z.plan(0, k), 5);
        c.due("four of four", z.plan(0, 4) >= 0, true);
        z.days(4);
        none("none is left", z, k -> z.plan(0, k), 1, 5);
    }

    private static void planAt() {
        promise(20);
        c.says("Where the WHEEL is ahead of the i-th DAY (from 0) by the latest plan() that was not NONE");
        DrownedRooms x = base();
        none("ahead of any", x, i -> x.planAt(i), -1, 0, 1);
        x.plan(0, 3);
        int[] due = {0, 3, 5};
        for (int i = 0; i < 3; i++) {
            c.due("planAt(" + i + ")", x.planAt(i), due[i]);
        }
        x.plan(2, 3);
        x.plan(4, 1);
        x.plan(0, 6);
        x.wheel(5);
        c.due("by the latest that was not NONE", x.planAt(2), 5);
        c.says("NONE: none such, or ahead of any.");
        none("none such", x, i -> x.planAt(i), -1, 3, 4, 5, MAX, MIN);
        x.plan(0, 1);
        c.due("no second now", x.planAt(1), -1);
        c.due("no third now", x.planAt(2), -1);
        Check.valley(x, "");
        c.due("in another VALLEY", x.planAt(0), 5);
    }

    private static void round() {
        promise(21);
        c.says("ROUND: how many strokes.");
        DrownedRooms x = base();
        c.due("one HOUSE", x.round(), 10);
        x.take(2, 3, 1);
        c.due("two", x.round(), 5 + 10 + 11);
        x.leave(0);
        x.leave(2);
        c.due("none", x.round(), 0);
        c.due("without HOUSES", new DrownedRooms().round(), 0);
    }

    private static void roundAt() {
        promise(22);
        c.says("The i-th HOUSE (from 0) by the latest round()");
        DrownedRooms x = base();
        none("ahead of any", x, i -> x.roundAt(i), -1, 0, 1);
        x.take(2, 3, 1);
        x.round();
        c.due("the first", x.roundAt(0), 0);
        c.due("the second", x.roundAt(1), 1);
        x.leave(0);
        c.due("by the latest, whoever left then", x.roundAt(0), 0);
        x.round();
        c.due("by the latest", x.roundAt(0), 1);
        c.says("NONE: none such, or ahead of any.");
        none("none such", x, i -> x.roundAt(i), -1, 1, 2, 5, MAX, MIN);
        DrownedRooms y = base();
        y.leave(0);
        y.round();
        none("of none", y, i -> y.roundAt(i), 0, 1);
    }

    private static void marks() {
        promise(23);
        c.says("MARKS: how many LEVELS");
        DrownedRooms x = base();
        Check.putBytes(x, 1, 1, 0, 0);
        c.due("16 to 20", x.marks(), 5);
        Check.putBytes(x, 2, 1, 2, 0);
        c.due("none", x.marks(), 0);
        c.says("NONE: not as told.");
        DrownedRooms y = busy();
        String before = Seen.all(y);
        int[][] wrong = {{}, {0}, {0, 2}, {4, 0}, {0, 1, 0}, {0, 0, 0, 0, 0, 0, 0, 0, 0, 0, 0, 0, 0, 0, 0, 0, 0, 0}};
        for (int[] bytes : wrong) {
            Check.putBytes(y, bytes);
            c.due(bytes.length + " bytes", y.marks(), -1);
        }
        c.dueText("all", Seen.all(y), before);
        Check.putBytes(y, 0, 0, 0, 0, 0, 0, 0, 0, 0, 0, 0, 0, 0, 0, 0, 0);
        c.due("eight", y.marks(), 21);
    }

    private static void lowest() {
        DrownedRooms x = base();
        DrownedRooms ahead = base();
        Check.putBytes(ahead, 2, 1, 2, 0);
        ahead.marks();
        Check.putBytes(ahead, 4, 1);
        ahead.marks();
        Check.putBytes(x, 1, 1, 0, 0);
        x.marks();
        Check.putBytes(x, 2, 1, 2, 0);
        c.due("none", x.marks(), 0);
        Check.putBytes(x, 9, 1);
        c.due("not as told", x.marks(), -1);
        promise(24);
        c.says("The least of these by the latest marks() above 0");
        c.due("lowest", x.lowest(), 16);
        c.says("NONE ahead of any.");
        c.due("ahead of any", base().lowest(), -1);
        c.due("ahead of any above 0", ahead.lowest(), -1);
        promise(25);
        c.says("The greatest of these");
        c.due("highest", x.highest(), 20);
        c.says("NONE ahead of any.");
        c.due("ahead of any", base().highest(), -1);
        c.due("ahead of any above 0", ahead.highest(), -1);
        promise(26);
        c.says("BELL by that (as it was then)");
        c.due("of 16 .. 20", x.bell(), 0);
        Check.putBytes(x, 2, 1, 3, 0);
        x.marks();
        c.due("of 13 .. 30", x.bell(), 0);
        Check.putBytes(x, 0, 1);
        x.marks();
        c.due("of 21 .. 99", x.bell(), 3);
        Check.valley(x, "house q 0 0;room a q 60 1;room b q 61 1;");
        c.due("as it was then", x.bell(), 3);
        c.due("lowest as it was then", x.lowest(), 21);
        c.says("NONE ahead of any.");
        c.due("ahead of any", base().bell(), -1);
        c.due("ahead of any above 0", ahead.bell(), -1);
    }

    private static void visits() {
        promise(27);
        c.says("VISITS of a GUEST: whom, as bits");
        DrownedRooms x = base();
        x.take(2, 0, 5);
        c.due("visits(0)", x.visits(0), 4);
        c.due("visits(1)", x.visits(1), 4);
        c.due("visits(2)", x.visits(2), 0);
        c.says("NONE: no such one.");
        none("visits", x, g -> x.visits(g), -1, 3, 6, MAX, MIN);
        DrownedRooms z = new DrownedRooms();
        none("there is none", z, g -> z.visits(g), 0);
    }

    private static void quiet() {
        promise(28);
        c.says("QUIET for a GUEST: ROOMS, as bits");
        DrownedRooms x = base();
        c.due("quiet(0)", x.quiet(0), 11);
        c.due("quiet(1)", x.quiet(1), 8);
        c.due("quiet(2)", x.quiet(2), 9);
        c.says("NONE: no such one.");
        none("quiet", x, g -> x.quiet(g), -1, 3, 6, MAX, MIN);
        DrownedRooms z = new DrownedRooms();
        none("there is none", z, g -> z.quiet(g), 0);
    }

    private static void quarrels() {
        promise(29);
        c.says("How many pairs that quarrel have ROOMS in one HOUSE.");
        c.due("without GUESTS", new DrownedRooms().quarrels(), 0);
        DrownedRooms x = base();
        c.due("one of two alone has a ROOM", x.quarrels(), 0);
        x.take(1, 3, 1);
        c.due("in two HOUSES", x.quarrels(), 0);
        x.leave(1);
        x.take(2, 0, 1);
        c.due("who does not quarrel", x.quarrels(), 0);
        x.leave(2);
        x.take(1, 0, 1);
        c.due("in one", x.quarrels(), 1);
        StringBuilder all = new StringBuilder("house h 0 0;");
        for (char i = 'a'; i < 'g'; i++) {
            all.append("room r").append(i).append(" h 99 1;guest g").append(i).append(" 9 9;");
            all.append("sleeps g").append(i).append(" r").append(i).append(" 9;");
            for (char j = 'a'; j < i; j++) {
                all.append("quarrel g").append(i).append(" g").append(j).append(';');
            }
        }
        DrownedRooms y = Check.in(all.toString());
        c.due("all of six", y.quarrels(), 15);
        y.leave(0);
        c.due("all of five", y.quarrels(), 10);
    }

    private static void brings() {
        promise(30);
        c.says("What all ROOMS bring in n (1 to 60) DAYS");
        DrownedRooms x = base();
        x.take(1, 0, 9);
        x.take(2, 3, 4);
        String before = Seen.all(x);
        c.due("in one", x.brings(1), 14);
        c.due("in two", x.brings(2), 28);
        c.due("in 60", x.brings(60), 46);
        c.dueText("all", Seen.all(x), before);
        x.days(1);
        c.due("what is to come", x.brings(60), 32);
        c.due("nobody", new DrownedRooms().brings(60), 0);
        c.says("(fewer, if all are over)");
        DrownedRooms y = Check.in("rain 1 1;house h 0 0;room r h 20 1;guest g 99 0;");
        go(y, 398);
        y.take(0, 0, 30);
        c.due("in two of 60", y.brings(60), 2);
        c.due("in one of two", y.brings(1), 1);
        y.days(2);
        c.due("in none", y.brings(60), 0);
        c.says("NONE: not as told.");
        none("brings", x, n -> x.brings(n), 0, -1, 61, MAX, MIN);
        none("brings behind all", y, n -> y.brings(n), 0, 61);
    }

    private static void bill() {
        promise(31);
        c.says("BILL of a GUEST: how many bytes");
        DrownedRooms x = base();
        c.due("bill(0)", x.bill(0), "anna in klamm for 3 owns 40".length());
        c.due("bill(1)", x.bill(1), "ben ashore owns 12".length());
        c.says("NONE: no such one.");
        none("bill", x, g -> x.bill(g), -1, 3, 6, MAX, MIN);
        DrownedRooms z = new DrownedRooms();
        none("there is none", z, g -> z.bill(g), 0);
    }

    private static void byteAt() {
        promise(32);
        c.says("Byte i of the latest BILL");
        DrownedRooms x = base();
        none("ahead of any", x, i -> x.byteAt(i), -1, 0, 1);
        c.dueText("bill(0)", Check.billOf(x, 0), "anna in klamm for 3 owns 40");
        c.dueText("bill(1)", Check.billOf(x, 1), "ben ashore owns 12");
        x.bill(3);
        x.take(1, 0, 5);
        c.due("of the latest, as it was then", x.byteAt(4), 'a');
        Check.valley(x, "");
        c.due("in another VALLEY", x.byteAt(17), '2');
        c.says("NONE: none such.");
        none("byteAt", x, i -> x.byteAt(i), -1, 18, 26, MAX, MIN);
    }

    private static void drawn() {
        promise(33);
        c.says("n (1 to 60) DAYS DRAWN by a seed: how many went by");
        DrownedRooms x = base();
        c.due("one", x.drawn(1, 5), 1);
        c.due("60", x.drawn(60, MIN), 60);
        c.due("61 went by", x.now(0), 61);
        go(x, 338);
        c.due("one is left", x.drawn(60, MAX), 1);
        String before = Seen.all(x);
        c.due("none is left", x.drawn(60, 0), 0);
        c.dueText("nothing went on", Seen.all(x), before);
        // Each call begins by its own seed.
        DrownedRooms two = base();
        two.drawn(2, 9);
        DrownedRooms again = base();
        again.drawn(2, 9);
        c.dueText("by the same seed", Seen.world(again), Seen.world(two));
        again.undo();
        again.drawn(2, 9);
        c.dueText("by the same seed again", Seen.world(again), Seen.world(two));
        c.says("NONE: not as told.");
        refused("drawn", (y, n) -> y.drawn(n, 1), 0, -1, 61, MAX, MIN);
    }

    private static void odds() {
        promise(34);
        c.says("Of n (1 to 30) seeds x, x and 1, .. by how many a ROOM is dry behind 20 DAYS DRAWN from now on");
        String village = "lake 20;rain 1 1;storm 2;house h 0 0;room a h 30 1;room b h 40 1;room d h 20 1;guest e 9 9;guest f 9 9;";
        DrownedRooms x = Check.in(village);
        x.days(3);
        for (int from : new int[] {0, -3, MAX - 2, MIN}) {
            int dry = 0;
            for (int i = 0; i < 5; i++) {
                DrownedRooms y = Check.in(village);
                y.days(3);
                y.drawn(20, from + i);
                dry += y.room(0, 3) == 0 ? 1 : 0;
                c.due("one seed, " + (from + i), x.odds(0, 1, from + i), y.room(0, 3) == 0 ? 1 : 0);
                c.due("seeds from " + from, x.odds(0, i + 1, from), dry);
            }
        }
        String before = Seen.all(x);
        c.due("30", x.odds(2, 30, 1) + x.odds(1, 30, 1) > 0, true);
        c.dueText("all", Seen.all(x), before);
        DrownedRooms still = Check.in("lake 20;rain 1 1;house h 0 0;room a h 20 1;room b h 19 1;");
        c.due("as high as its FOOT", still.odds(0, 30, 7), 30);
        c.due("higher", still.odds(1, 30, 7), 0);
        // It rains on the 20th DAY first; on the 19th it was dry.
        DrownedRooms late = Check.in("lake 20;rain 20 9;house h 0 0;room a h 20 1;");
        late.wheel(0);
        c.due("behind the 20th", late.odds(0, 30, 7), 0);
        DrownedRooms later = Check.in("lake 20;rain 21 9;house h 0 0;room a h 20 1;");
        later.wheel(0);
        c.due("ahead of the 21st", later.odds(0, 30, 7), 30);
        go(still, 400);
        c.due("behind all, as it is now", still.odds(0, 30, 7), 30);
        c.says("NONE: no such ones.");
        none("no such ROOM", x, r -> x.odds(r, 1, 1), -1, 3, 8, MAX, MIN);
        none("not so many seeds", x, n -> x.odds(0, n, 1), 0, -1, 31, MAX, MIN);
    }

    private static void book() {
        promise(35);
        c.says("The tape is a BOOK: it is judged, all staying as it is (lives 0)");
        DrownedRooms x = busy();
        String before = Seen.world(x);
        c.due("judged", Check.book(x, "anna leaves;wheel 5;day 60;ben takes dach 1;", 0), -1);
        c.dueText("all stays", Seen.world(x), before);
        c.due("judged, WRONG", Check.book(x, "anna leaves;anna leaves;", 0), 1);
        c.dueText("all stays then too", Seen.world(x), before);
        c.due("nothing was lived", x.undo(), -1);
        c.says("or lived as far as it is not WRONG (1): the LINE that is WRONG");
        bookLived();
        c.says("NONE: none;");
        bookRight();
        c.says("-2 less the place of a FAULT;");
        bookFaults();
        c.says("-1000: another lives (the tape stays).");
        DrownedRooms y = busy();
        Check.put(y, "day 5;?");
        String all = Seen.all(y);
        for (int lives : new int[] {-1, 2, MAX, MIN}) {
            c.due("book(" + lives + ")", y.book(lives), -1000);
        }
        c.dueText("all", Seen.all(y), all);
        c.due("the tape stays", y.count(7), 7);
        y.end(6);
        c.due("its bytes stay", y.book(0), -1);
    }

    private static void bookLived() {
        DrownedRooms x = base();
        String before = Seen.world(x);
        c.due("WRONG in the third", Check.book(x, "wheel 2;day 3;wheel 2;day 1;", 1), 2);
        c.due("two DAYS and one", x.now(0), 3);
        c.due("the WHEEL", x.now(2), 2);
        c.due("at once", x.undo(), 0);
        c.dueText("undone", Seen.world(x), before);
        c.due("WRONG in the first", Check.book(x, "wheel 1;day 1;", 1), 0);
        c.dueText("nothing was lived", Seen.world(x), before);
        c.due("WRONG in the last of 40", Check.book(base(), "day 1;".repeat(39) + "wheel 1;", 1), 39);
    }

    private static void bookRight() {
        DrownedRooms x = base();
        c.due("none", Check.book(x, "wheel 0;anna leaves;day 2;anna takes dach 7;day 1;", 1), -1);
        c.due("lived", x.guest(0, 3), 6);
        c.due("an empty one", Check.book(x, "", 1), -1);
        c.due("an empty one is judged", Check.book(x, "", 0), -1);
        c.due("40", Check.book(base(), "day 1;".repeat(40), 1), -1);
    }

    private static void bookFaults() {
        DrownedRooms x = base();
        String before = Seen.world(x);
        c.due("at 0", Check.book(x, "?", 1), -2);
        c.due("at 6", Check.book(x, "day 5;?", 1), -8);
        c.due("at the end", Check.book(x, "day 5", 1), -7);
        c.due("at 400", Check.book(x, "day 5;" + " ".repeat(395), 1), -402);
        c.dueText("nothing is lived by a FAULT", Seen.world(x), before);
        c.due("none can be undone", x.undo(), -1);
    }

    private static void toldIs(DrownedRooms x, String text, int line, int... told) {
        for (int lives = 0; lives < 2; lives++) {
            c.due("book " + text, Check.book(x, text, lives), line);
            for (int what = 0; what < 4; what++) {
                c.due("told(" + what + ") of " + text, x.told(what), told[what]);
            }
        }
        x.undo();
    }

    private static void told() {
        promise(36);
        c.says("Of the latest book() that had no FAULT (and was not -1000)");
        DrownedRooms x = base();
        none("ahead of any", x, what -> x.told(what), 0, 1, 2, 3);
        Check.book(x, "?", 0);
        x.book(2);
        none("ahead of any without a FAULT", x, what -> x.told(what), 0, 1, 2, 3);
        Check.book(x, "day 2;wheel 1;", 0);
        Check.book(x, "day 3;?", 1);
        Check.put(x, "day 3;");
        x.book(7);
        c.due("why", x.told(0), 21);
        c.due("LINES", x.told(1), 1);
        c.due("the DAY", x.told(2), 2);
        c.due("the LEVEL", x.told(3), 16);
        whyWrong();
        toldThen();
    }

    private static void whyWrong() {
        DrownedRooms x = base();
        c.says("0 why it was WRONG (0: it was not; 1 to 3 as for taking, 11 leaving, 21 turning; 31: fewer DAYS are left),");
        toldIs(x, "day 3;wheel 0;day 2;", -1, 0, 3, 5, 19);
        toldIs(x, "", -1, 0, 0, 0, 18);
        toldIs(x, "anna takes klamm 1;", 0, 1, 0, 0, 18);
        toldIs(x, "day 1;ben takes klamm 1;", 1, 2, 1, 1, 17);
        toldIs(x, "ben takes keller 1;", 0, 3, 0, 0, 18);
        toldIs(x, "", -1, 0, 0, 0, 18);
        toldIs(x, "ben leaves;", 0, 11, 0, 0, 18);
        toldIs(x, "wheel 0;wheel 0;", 1, 21, 1, 0, 18);
        String most = "day 60;".repeat(6);
        toldIs(x, most + "day 40;", -1, 0, 7, 400, 98);
        toldIs(x, most + "day 41;", 6, 31, 6, 360, 99);
        toldIs(x, most + "day 40;day 1;", 7, 31, 7, 400, 98);
    }

    private static void toldThen() {
        DrownedRooms x = base();
        c.says("1 LINES that are not, 2 the DAY then, 3 the LEVEL then.");
        toldIs(x, "day 1;day 1;wheel 1;day 1;day 1;", 2, 21, 2, 2, 16);
        Check.book(x, "day 1;", 0);
        x.days(5);
        c.due("then, not now: the DAY", x.told(2), 1);
        c.due("then, not now: the LEVEL", x.told(3), 17);
        Check.valley(x, "");
        c.due("in another VALLEY", x.told(3), 17);
        c.says("NONE: another what, or ahead of any.");
        none("another what", x, what -> x.told(what), -1, 4, MAX, MIN);
    }

    private static void sentence() {
        promise(37);
        c.says("The tape is the SENTENCE now: how many ONES (each not, bracket and other one)");
        DrownedRooms x = base();
        c.due("one", Check.sentence(x, "wet"), 1);
        c.due("a not", Check.sentence(x, "not wet"), 2);
        c.due("a bracket", Check.sentence(x, "(wet)"), 2);
        c.due("or, and are none", Check.sentence(x, "wet or let and foot<5"), 3);
        c.due("all of these", Check.sentence(x, "not(in tor or not has anna)and(number=3)"), 7);
        c.due("the latest is the SENTENCE", x.said(0), -1);
        Check.sentence(x, "number=3");
        c.due("the latest then", x.said(0), 3);
        c.says("-1 less the place of a FAULT: it stays.");
        String before = Seen.world(x);
        c.due("at 0", Check.sentence(x, "?"), -1);
        c.due("at 4", Check.sentence(x, "wet ?"), -5);
        c.due("at the end", Check.sentence(x, "not"), -4);
        c.due("at 200", Check.sentence(x, "wet" + " ".repeat(198)), -201);
        c.due("of none", Check.sentence(x, ""), -1);
        c.dueText("it stays", Seen.world(x), before);
        DrownedRooms y = base();
        Check.sentence(y, "wet ?");
        c.due("there is still none", y.said(-1), -1);
    }

    private static void said() {
        promise(38);
        c.says("ROOMS of which it may be said: how many (k NONE), or the k-th.");
        DrownedRooms x = base();
        none("no SENTENCE", x, k -> x.said(k), -1, 0, 1, -2);
        Check.sentence(x, "wet");
        c.due("how many", x.said(-1), 2);
        c.due("the first", x.said(0), 1);
        c.due("the second", x.said(1), 2);
        x.wheel(5);
        x.days(1);
        c.due("by what is so now", x.said(-1), 1);
        x.undo();
        c.due("by what is so again", x.said(-1), 2);
        c.says("NONE: there is no SENTENCE, none such.");
        none("none such", x, k -> x.said(k), 2, 3, 8, -2, MAX, MIN);
        DrownedRooms y = base();
        Check.sentence(y, "foot>99");
        c.due("of none", y.said(-1), 0);
        none("of none", y, k -> y.said(k), 0);
        Check.valley(y, BASE);
        none("none in a new VALLEY", y, k -> y.said(k), -1, 0);
    }

    private static void image() {
        promise(39);
        c.says("VALLEY, all that is so and the SENTENCE are kept in place k (0, 1): true;");
        DrownedRooms x = busy();
        x.take(1, 0, 2);
        x.wheel(3);
        x.days(1);
        String all = Seen.all(x);
        c.due("image(0)", x.image(0), true);
        c.dueText("all", Seen.all(x), all);
        String first = Seen.world(x);
        c.due("what was done can still be undone", x.undo(), 2);
        String second = Seen.world(x);
        c.due("image(1)", x.image(1), true);
        Check.valley(x, "lake 5;house a 1 1;");
        x.restore(0);
        c.dueText("place 0", Seen.world(x), first);
        x.restore(1);
        c.dueText("place 1", Seen.world(x), second);
        imageAgain();
        c.says("false: no such one.");
        DrownedRooms z = busy();
        String before = Seen.all(z);
        for (int k : new int[] {-1, 2, MAX, MIN}) {
            c.due("image(" + k + ")", z.image(k), false);
        }
        c.dueText("all", Seen.all(z), before);
        DrownedRooms y = base();
        y.image(2);
        y.image(-1);
        c.due("nothing is kept in 0", y.restore(0), false);
        c.due("nothing is kept in 1", y.restore(1), false);
    }

    private static void imageAgain() {
        DrownedRooms x = base();
        x.image(0);
        x.wheel(3);
        x.image(1);
        String first = Seen.world(x);
        x.days(9);
        c.due("image(0) again", x.image(0), true);
        String last = Seen.world(x);
        x.restore(1);
        c.dueText("place 1 is as it was kept", Seen.world(x), first);
        x.restore(0);
        c.dueText("place 0 is as it was kept last", Seen.world(x), last);
    }

    private static void restore() {
        promise(40);
        c.says("They are as kept in place k (the tape, and what other calls told last, stays; nothing can be undone): true;");
        DrownedRooms x = base();
        x.image(0);
        String kept = Seen.world(x);
        Check.valley(x, "lake 40;mill 8;house a 3 3;room b a 5 1;room d a 45 2;guest e 9 20;sleeps e d 9;");
        Check.sentence(x, "wet");
        Check.putBytes(x, 0, 0, 1);
        x.stays();
        Check.putBytes(x, 0, 1);
        x.marks();
        x.plan(1, 2);
        x.round();
        x.bill(0);
        Check.book(x, "wheel 1;", 0);
        x.days(4);
        Check.valley(x, "lake 100;");
        x.feed(0x6c616b65, 0x20353b20, 0x20202020, 0x20202020, 0x20202020);
        String told = Seen.told(x);
        c.due("restore(0)", x.restore(0), true);
        c.dueText("as kept", Seen.world(x), kept);
        c.dueText("what was told stays", Seen.told(x), told);
        c.due("the FAULT stays", x.fault(), 2);
        c.due("nothing can be undone", x.undo(), -1);
        c.due("the tape stays", x.count(7), 20);
        c.due("its bytes stay", x.valley(), 1);
        c.due("names are as kept", x.restore(0), true);
        c.due("a BOOK by them", Check.book(x, "anna leaves;ben takes dach 1;", 1), -1);
        c.due("no SENTENCE was kept", x.said(-1), -1);
        c.due("again", x.restore(0), true);
        c.dueText("as kept, whatever was done since", Seen.world(x), kept);
        DrownedRooms fresh = new DrownedRooms();
        fresh.image(1);
        Check.valley(fresh, BASE);
        fresh.restore(1);
        c.dueText("a new one", Seen.world(fresh), Seen.world(new DrownedRooms()));
        c.says("false: no such one, or nothing is kept there.");
        DrownedRooms y = busy();
        y.days(1);
        String before = Seen.all(y);
        for (int k : new int[] {0, 1, -1, 2, MAX, MIN}) {
            c.due("restore(" + k + ")", y.restore(k), false);
        }
        y.image(1);
        c.due("nothing is kept in 0", y.restore(0), false);
        c.dueText("all", Seen.all(y), before);
        c.due("what was done can be undone", y.undo(), 0);
    }

    private static void count() {
        promise(41);
        c.says("0 HOUSES, 1 ROOMS, 2 GUESTS, 3 EVERY, 4 RISE, 5 'mill', 6 'storm', 7 bytes of the tape.");
        DrownedRooms x = Check.in("rain 5 6;mill 44;storm 3;house a 1 1;house b 1 1;room d a 1 1;guest e 1 1;"
                + "guest f 1 1;guest g 1 1;");
        x.feed(0, 0, 0, 0, 0);
        int[] due = {2, 1, 3, 5, 6, 44, 3, 20};
        for (int what = 0; what < 8; what++) {
            c.due("count(" + what + ")", x.count(what), due[what]);
        }
        c.says("NONE for another what.");
        none("count", x, what -> x.count(what), -1, 8, MAX, MIN);
    }

    /** As many of each sort as there may be: the last of each is asked for like the others. */
    private static void full() {
        StringBuilder text = new StringBuilder("lake 9;rain 1 1;mill 0;");
        for (int i = 0; i < 5; i++) {
            text.append("house h").append((char) ('a' + i)).append(' ').append(i).append(" 0;");
        }
        for (int i = 0; i < 8; i++) {
            text.append("room r").append((char) ('a' + i)).append(" h").append((char) ('a' + i % 5)).append(" 9 1;");
        }
        for (int i = 0; i < 6; i++) {
            text.append("guest g").append((char) ('a' + i)).append(" 99 0;");
            text.append("sleeps g").append((char) ('a' + i)).append(" r").append((char) ('a' + i + 2)).append(" 9;");
        }
        DrownedRooms x = Check.in(text + "quarrel gf ge;quarrel ga gf;");
        c.due("fault()", x.fault(), 0);
        c.due("none is WET", x.now(4), 0);
        c.due("six are let", x.now(5), 0b11111100);
        c.due("who has the last", x.room(7, 4), 5);
        c.due("visits(5)", x.visits(5), 0b11111);
        // ga and gf have ROOMS in the third HOUSE, as gf's foe ge has one in the second.
        c.due("quarrels()", x.quarrels(), 1);
        c.due("quiet(5)", x.quiet(5), 0b00000001);
        c.due("round()", x.round(), 8);
        c.due("the last HOUSE", x.roundAt(4), 4);
        c.due("brings(1)", x.brings(1), 6);
        c.due("plan(7, 1)", x.plan(7, 1), 5);
        c.due("dry(7, 60)", x.dry(7, 60), 60);
        c.due("wets(7)", x.wets(7), -1);
        c.due("odds(7, 1, 1)", x.odds(7, 1, 1), 1);
        Check.sentence(x, "not wet");
        c.due("said(-1)", x.said(-1), 8);
        c.due("said(7)", x.said(7), 7);
        Check.putBytes(x, 5, 0, 1, 4, 0, 1, 3, 0, 1, 2, 0, 1, 1, 0, 1);
        c.due("stays()", x.stays(), 5);
        Check.putBytes(x, 7, 0, 7, 0, 7, 0, 7, 0, 7, 0, 7, 0, 7, 0, 7, 0);
        c.due("marks()", x.marks(), 10);
        c.dueText("bill(5)", Check.billOf(x, 5), "gf in rh for 9 owns 99");
        c.due("days(1)", x.days(1), 1);
        c.due("all paid", x.now(6), 6);
        c.due("the last paid", x.room(7, 5), 1);
        c.due("book", Check.book(x, "gf leaves;gf takes ra 1;", 1), -1);
        c.due("drawn(1, 1)", x.drawn(1, 1), 1);
    }

    private static void lastCalls() {
        c.reads(Document.between("An object is used", "## The public face"));
        c.says("An object is used for at most 512 calls after it has been made; what later calls answer is free.");
        DrownedRooms x = new DrownedRooms();
        for (int i = 0; i < 500; i++) {
            c.due("wheel, call " + i, x.wheel(i % 2 == 0 ? 5 : 0), 0);
        }
        for (int more = 7; more >= 0; more--) {
            c.due("undo", x.undo(), more);
        }
        c.due("undo, call 509", x.undo(), -1);
        c.due("days, call 510", x.days(60), 60);
        c.due("now, call 511", x.now(0), 60);
        c.due("undo, call 512", x.undo(), 0);
        DrownedRooms y = new DrownedRooms();
        for (int i = 0; i < 250; i++) {
            c.due("feed", y.feed(0x77686565, 0x6c20303b, 0x20202020, 0x20202020, 0x20202020), 20);
            c.due("book", y.book(1), i == 0 ? -1 : 0);
        }
        c.due("told, call 501", y.told(0), 21);
    }
}
