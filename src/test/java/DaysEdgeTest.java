/** What stands behind "==== 2.", sentence by sentence, and the sentence on a new VALLEY and on a call that throws. */
public final class DaysEdgeTest {
    private static final Check c = new Check();

    public static void main(String[] args) {
        c.reads(Document.between("==== 2.", "==== 3."));
        wet();
        take();
        leave();
        wheel();
        lastDay();
        mills();
        rise();
        bounds();
        tooDeep();
        free();
        pays();
        nights();
        c.reads(Document.between("A new VALLEY:", "## Promise 1:"));
        newValley();
        thrown();
        c.close("DaysEdgeTest");
    }

    /** The LEVEL stays as it is while the WHEEL is at 1. */
    private static DrownedRooms still(String more) {
        return Check.in("rain 1 1;house h 0 0;" + more);
    }

    private static DrownedRooms lake(int level, int every, int rise, int mill) {
        return Check.in("lake " + level + ";rain " + every + " " + rise + ";mill " + mill + ";");
    }

    private static void wet() {
        c.says("==== 2. A ROOM is WET, if the LEVEL is above its FOOT");
        String rooms = "room a h 19 1;room b h 20 1;room d h 21 1;room e h 0 1;room f h 99 1;";
        DrownedRooms x = still("lake 20;" + rooms);
        c.due("one below, one as high, one above, the least, the highest", x.now(4), 9);
        DrownedRooms dry = still("lake 0;" + rooms);
        c.due("none is WET at 0", dry.now(4), 0);
        DrownedRooms deep = still("lake 99;" + rooms);
        c.due("all but that at 99 are WET", deep.now(4), 15);
        c.says("its DEPTH is by how much");
        int[] due = {1, 0, 0, 20, 0};
        int[] deepest = {80, 79, 78, 99, 0};
        for (int r = 0; r < 5; r++) {
            c.due("DEPTH of " + r, x.room(r, 3), due[r]);
            c.due("DEPTH of " + r + " at 0", dry.room(r, 3), 0);
            c.due("DEPTH of " + r + " at 99", deep.room(r, 3), deepest[r]);
        }
    }

    private static void take() {
        c.says("To TAKE a ROOM for n nights: why not, the least: 1 the GUEST has one; 2 somebody has it;"
                + " 3 its DEPTH is above his BREATH: he has it, n nights are left.");
        DrownedRooms x = still("lake 20;room a h 10 1;room b h 20 1;room d h 10 1;guest e 9 5;guest f 9 9;guest g 9 10;"
                + "sleeps e b 3;sleeps g a 2;");
        String before = Seen.world(x);
        c.due("1, 2 and 3", x.take(0, 0, 1), 1);
        c.due("1 and 2, it is his own", x.take(0, 1, 1), 1);
        c.due("1 and 3", x.take(0, 2, 1), 1);
        c.due("1 alone", x.take(2, 2, 1), 1);
        c.due("2 and 3", x.take(1, 0, 1), 2);
        c.due("2 alone", x.take(1, 1, 1), 2);
        c.due("3 alone, by one", x.take(1, 2, 1), 3);
        c.dueText("nothing was done", Seen.world(x), before);
        x.leave(2);
        c.due("as deep as his BREATH", x.take(2, 2, 30), 0);
        c.due("he has it", x.guest(2, 2), 2);
        c.due("it is his", x.room(2, 4), 2);
        c.due("30 are left", x.guest(2, 3), 30);
        DrownedRooms y = still("lake 20;room a h 20 1;guest e 0 0;");
        c.due("dry, by one without BREATH and money", y.take(0, 0, 1), 0);
        c.due("one is left", y.guest(0, 3), 1);
        DrownedRooms z = still("lake 21;room a h 20 1;guest e 0 0;");
        c.due("WET by one", z.take(0, 0, 1), 3);
    }

    private static void leave() {
        c.says("To LEAVE: 1 he has none: he has none any more.");
        DrownedRooms x = still("lake 20;room a h 20 1;guest e 9 5;guest f 9 5;sleeps e a 3;");
        String before = Seen.world(x);
        c.due("he has none", x.leave(1), 1);
        c.dueText("nothing was done", Seen.world(x), before);
        c.due("he leaves", x.leave(0), 0);
        c.due("he has none any more", x.guest(0, 2), -1);
        c.due("nor nights", x.guest(0, 3), 0);
        c.due("nobody has it", x.room(0, 4), -1);
        c.due("he can't again", x.leave(0), 1);
        c.due("another can take it", x.take(1, 0, 1), 0);
    }

    private static void wheel() {
        c.says("To turn the WHEEL to n: 1 it is there.");
        DrownedRooms x = still("");
        String before = Seen.world(x);
        c.due("it is there", x.wheel(1), 1);
        c.dueText("nothing was done", Seen.world(x), before);
        for (int n : new int[] {0, 5, 1}) {
            c.due("wheel(" + n + ")", x.wheel(n), 0);
            c.due("at", x.now(2), n);
            c.due("wheel(" + n + ") again", x.wheel(n), 1);
        }
    }

    private static void lastDay() {
        c.says("A DAY (0 to 399; 400: all are over) goes");
        DrownedRooms x = still("lake 20;mill 20;storm 12;room a h 99 1;guest e 99 5;");
        c.due("the first", x.now(0), 0);
        for (int i = 0; i < 6; i++) {
            x.days(60);
        }
        x.days(39);
        c.due("the last", x.now(0), 399);
        x.take(0, 0, 30);
        c.due("it goes", x.days(1), 1);
        c.due("all are over", x.now(0), 400);
        c.due("the mills had 400", x.now(3), 400);
        c.due("he paid", x.guest(0, 0), 98);
        String before = Seen.world(x);
        c.due("none goes", x.days(1), 0);
        c.due("none goes by draws", x.drawn(1, 5), 0);
        c.dueText("nothing went on", Seen.world(x), before);
    }

    private static void millsHave(DrownedRooms x, int days, int due) {
        x.days(days);
        c.due("the mills behind " + days, x.now(3), due);
    }

    private static void mills() {
        c.says("if the LEVEL is as high as 'mill' tells, at least, the mills have as much more as the WHEEL is at.");
        millsHave(lake(15, 1, 1, 15), 1, 1);
        millsHave(lake(16, 1, 1, 15), 1, 1);
        millsHave(lake(14, 1, 1, 15), 1, 0);
        millsHave(lake(0, 1, 1, 0), 3, 3);
        millsHave(lake(99, 1, 1, 99), 3, 3);
        millsHave(lake(98, 1, 1, 99), 3, 0);
        DrownedRooms fast = lake(15, 1, 5, 15);
        fast.wheel(5);
        millsHave(fast, 2, 10);
        DrownedRooms slow = lake(15, 1, 0, 15);
        slow.wheel(0);
        millsHave(slow, 2, 0);
        // By the LEVEL ahead of the DAY, not by that behind it.
        millsHave(lake(15, 30, 1, 15), 2, 1);
        millsHave(lake(14, 1, 9, 15), 1, 0);
        millsHave(lake(14, 1, 9, 15), 2, 1);
    }

    private static void levels(DrownedRooms x, int... due) {
        for (int i = 0; i < due.length; i++) {
            c.due("level(" + (i + 1) + ")", x.level(i + 1), due[i]);
        }
        for (int i = 0; i < due.length; i++) {
            x.days(1);
            c.due("the LEVEL behind " + (i + 1), x.now(1), due[i]);
        }
    }

    private static void rise() {
        c.says("Then the LEVEL is RISE more, if the number of the next DAY is divided by EVERY,"
                + " and as much less as the WHEEL is at");
        levels(lake(50, 1, 3, 0), 52, 54, 56);
        levels(lake(50, 2, 3, 0), 49, 51, 50, 52);
        levels(lake(50, 3, 9, 0), 49, 48, 56, 55, 54, 62);
        levels(lake(50, 3, 0, 0), 49, 48, 47);
        DrownedRooms x = lake(50, 30, 9, 0);
        x.days(29);
        c.due("behind 29", x.now(1), 21);
        x.days(1);
        c.due("behind 30", x.now(1), 29);
        x.wheel(0);
        x.days(29);
        c.due("behind 59, the WHEEL at 0", x.now(1), 29);
        x.days(1);
        c.due("behind 60", x.now(1), 38);
        DrownedRooms y = lake(0, 25, 1, 0);
        y.wheel(0);
        for (int i = 0; i < 6; i++) {
            y.days(60);
        }
        y.days(39);
        c.due("behind 399", y.now(1), 15);
        y.days(1);
        c.due("behind 400", y.now(1), 16);
    }

    private static void bounds() {
        c.says("(both at once; 0 at least, 99 at most)");
        DrownedRooms above = lake(99, 1, 9, 0);
        above.wheel(5);
        levels(above, 99);
        DrownedRooms below = lake(2, 1, 3, 0);
        below.wheel(5);
        levels(below, 0);
        DrownedRooms less = lake(3, 30, 0, 0);
        less.wheel(5);
        levels(less, 0, 0);
        DrownedRooms just = lake(5, 30, 0, 0);
        just.wheel(5);
        levels(just, 0, 0);
        levels(lake(1, 30, 0, 0), 0, 0);
        levels(lake(0, 30, 0, 0), 0);
        levels(lake(91, 1, 9, 0), 99, 99);
        levels(lake(90, 1, 9, 0), 98, 99);
        levels(lake(95, 1, 9, 0), 99);
    }

    private static void guestIs(String call, DrownedRooms x, int purse, int room, int nights, int wetNights) {
        c.due(call + ", PURSE", x.guest(0, 0), purse);
        c.due(call + ", ROOM", x.guest(0, 2), room);
        c.due(call + ", nights", x.guest(0, 3), nights);
        c.due(call + ", WET nights", x.guest(0, 4), wetNights);
    }

    private static void tooDeep() {
        c.says("Then GUEST by GUEST who has a ROOM: if its DEPTH is above his BREATH, he leaves");
        DrownedRooms x = still("lake 15;room a h 9 2;guest e 9 5;sleeps e a 3;");
        x.days(1);
        guestIs("deeper by one", x, 9, -1, 0, 0);
        c.due("nothing was brought", x.room(0, 5), 0);
        DrownedRooms y = still("lake 14;room a h 9 2;guest e 9 5;sleeps e a 3;");
        y.days(1);
        guestIs("as deep as his BREATH", y, 9, 0, 2, 1);
        DrownedRooms z = Check.in("lake 14;rain 1 2;house h 0 0;room a h 9 2;guest e 9 5;sleeps e a 3;");
        z.days(1);
        guestIs("by the LEVEL behind the rain", z, 9, -1, 0, 0);
        DrownedRooms w = Check.in("lake 15;rain 30 2;house h 0 0;room a h 9 2;guest e 9 5;sleeps e a 3;");
        w.days(1);
        guestIs("by the LEVEL that is less", w, 9, 0, 2, 1);
        DrownedRooms v = still("lake 15;room a h 15 2;guest e 9 5;");
        v.days(1);
        guestIs("who has no ROOM", v, 9, -1, 0, 0);
        c.due("nothing was brought", v.now(6), 0);
    }

    private static void free() {
        c.says("else, if it is WET, the night is free");
        DrownedRooms x = still("lake 10;room a h 9 2;guest e 9 5;sleeps e a 3;");
        x.days(1);
        guestIs("WET by one", x, 9, 0, 2, 1);
        c.due("it brought nothing", x.room(0, 5), 0);
        DrownedRooms y = still("lake 10;room a h 9 2;guest e 0 1;sleeps e a 3;");
        y.days(2);
        guestIs("without money", y, 0, 0, 1, 2);
        DrownedRooms z = Check.in("lake 9;rain 1 2;house h 0 0;room a h 9 2;guest e 9 5;sleeps e a 3;");
        z.days(1);
        guestIs("WET behind the DAY", z, 9, 0, 2, 1);
    }

    private static void pays() {
        c.says("else he pays its PRICE, or leaves, if he has not so much");
        DrownedRooms x = still("lake 9;room a h 9 2;guest e 5 0;sleeps e a 9;");
        x.days(1);
        guestIs("dry, as high as its FOOT", x, 3, 0, 8, 0);
        c.due("it brought", x.room(0, 5), 2);
        x.days(1);
        guestIs("again", x, 1, 0, 7, 0);
        x.days(1);
        guestIs("he has one less than its PRICE", x, 1, -1, 0, 0);
        c.due("it brought so far", x.room(0, 5), 4);
        DrownedRooms y = still("lake 9;room a h 9 30;guest e 30 0;sleeps e a 9;");
        y.days(1);
        guestIs("just its PRICE", y, 0, 0, 8, 0);
        c.due("it brought all", y.now(6), 30);
        y.days(1);
        guestIs("he has nothing", y, 0, -1, 0, 0);
        DrownedRooms z = Check.in("lake 10;rain 30 2;house h 0 0;room a h 9 2;guest e 9 5;sleeps e a 3;");
        z.days(1);
        guestIs("dry behind the DAY", z, 7, 0, 2, 0);
    }

    private static void nights() {
        c.says("who did not leave has a night less, and leaves, if none is left.");
        DrownedRooms x = still("lake 9;room a h 9 2;guest e 9 0;sleeps e a 2;");
        x.days(1);
        guestIs("one is left", x, 7, 0, 1, 0);
        x.days(1);
        guestIs("none is left, he paid", x, 5, -1, 0, 0);
        c.due("it brought both", x.room(0, 5), 4);
        x.days(1);
        guestIs("he pays no more", x, 5, -1, 0, 0);
        DrownedRooms y = still("lake 10;room a h 9 2;guest e 9 1;sleeps e a 1;");
        y.days(1);
        guestIs("none is left, it was free", y, 9, -1, 0, 1);
        DrownedRooms z = still("lake 9;room a h 9 1;guest e 99 0;sleeps e a 30;");
        z.days(29);
        guestIs("29 of 30", z, 70, 0, 1, 0);
        z.days(1);
        guestIs("30 of 30", z, 69, -1, 0, 0);
        c.says("It is the next DAY.");
        c.due("the 31st", z.now(0), 30);
    }

    private static void newValley() {
        c.says("A new VALLEY: DAY 0, the WHEEL at 1, the mills have nothing, no SENTENCE.");
        DrownedRooms x = still("lake 20;mill 0;room a h 30 2;room b h 19 1;guest e 9 5;guest f 9 5;quarrel e f;"
                + "sleeps e a 9;sleeps f b 9;");
        x.days(1);
        x.wheel(3);
        x.days(2);
        Check.sentence(x, "wet");
        c.due("the mills have", x.now(3), 7);
        c.due("f had a WET night", x.guest(1, 4), 1);
        String before = Seen.world(x);
        Check.valley(x, "lake 20;?");
        c.dueText("by a FAULT all stays", Seen.world(x), before);
        Check.valley(x, "house h 0 0;room a h 30 2;room b h 19 1;guest e 9 5;guest f 9 5;sleeps f a 4;");
        int[] now = {0, 20, 1, 0, 2, 1, 0};
        for (int what = 0; what < 7; what++) {
            c.due("now(" + what + ")", x.now(what), now[what]);
        }
        c.due("no SENTENCE", x.said(-1), -1);
        int[][] guests = {{9, 5, -1, 0, 0, 0}, {9, 5, 0, 4, 0, 0}};
        for (int what = 0; what < 6; what++) {
            c.due("guest(0, " + what + ")", x.guest(0, what), guests[0][what]);
            c.due("guest(1, " + what + ")", x.guest(1, what), guests[1][what]);
        }
        c.due("nothing was brought", x.room(0, 5), 0);
        c.due("there is nothing to undo", x.undo(), -1);
        x.days(3);
        Check.sentence(x, "let");
        c.due("an empty text is a new VALLEY too", Check.valley(x, ""), 0);
        c.due("DAY 0", x.now(0), 0);
        c.due("no SENTENCE there", x.said(-1), -1);
    }

    private static void thrown() {
        c.says("A call that throws changes nothing.");
        DrownedRooms x = still("lake 20;room a h 30 2;guest e 9 5;sleeps e a 9;");
        x.days(1);
        Check.sentence(x, "let");
        Check.book(x, "wheel 1;", 0);
        x.bill(0);
        x.round();
        x.plan(0, 2);
        x.feed(1, 2, 3, 4, 5);
        String before = Seen.all(x);
        int[][] calls = {{1, 0}, {-1, 0}, {0, 6}, {0, -1}, {8, 0}, {Integer.MAX_VALUE, 0}, {Integer.MIN_VALUE, 0},
            {0, Integer.MAX_VALUE}, {0, Integer.MIN_VALUE}, {1, 6}};
        for (int[] call : calls) {
            c.noSuchRoom(x, call[0], call[1]);
            c.noSuchGuest(x, call[0], call[1]);
        }
        c.dueText("all", Seen.all(x), before);
        c.due("undo", x.undo(), 0);
        c.due("DAY 0", x.now(0), 0);
    }
}
