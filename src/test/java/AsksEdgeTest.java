/** What stands behind "==== 3.", sentence by sentence. */
public final class AsksEdgeTest {
    /** Behind each DAY, from the first on: 9, 8, 10, 9, 8, 10, .. */
    private static final String WAVES = "lake 10;rain 3 3;house h 0 0;";

    private static final Check c = new Check();

    public static void main(String[] args) {
        c.reads(Document.between("==== 3.", "A new VALLEY:"));
        goesOn();
        dry();
        staysTape();
        staysDry();
        staysFirst();
        planTurns();
        planFirst();
        round();
        roundFirst();
        marks();
        bell();
        visits();
        quiet();
        bill();
        draws();
        drawnGuests();
        drawnStorms();
        c.close("AsksEdgeTest");
    }

    private static void days(DrownedRooms x, int n) {
        for (int left = n; left > 0; left -= 60) {
            x.days(Math.min(left, 60));
        }
    }

    private static void goesOn() {
        c.says("==== 3. All by what would go on, if nothing else is done (without storms).");
        String more = "room a h 9 2;room b h 10 3;guest e 99 0;guest f 99 9;sleeps e b 9;sleeps f a 5;";
        DrownedRooms x = Check.in(WAVES + "storm 12;mill 9;" + more);
        DrownedRooms y = Check.in(WAVES + "storm 0;mill 9;" + more);
        for (DrownedRooms z : new DrownedRooms[] {x, y}) {
            String before = Seen.world(z);
            c.due("level(3)", z.level(3), 10);
            c.due("level(60)", z.level(60), 10);
            c.due("dry(0, 6)", z.dry(0, 6), 4);
            c.due("dry(1, 60)", z.dry(1, 60), 60);
            c.due("wets(1)", z.wets(1), -1);
            // b brings 3 in each of nine nights, a 2 in its first, second, fourth and fifth.
            c.due("brings(60)", z.brings(60), 27 + 8);
            Check.putBytes(z, 0, 0, 30);
            c.due("stays", z.stays(), 1);
            c.due("plan(1, 3)", z.plan(1, 3), 6);
            c.dueText("nothing goes on", Seen.world(z), before);
        }
        x.days(6);
        c.due("without storms in days() too", x.now(1), 10);
        // By where the WHEEL is now, and by who has which ROOM now.
        y.wheel(3);
        y.leave(0);
        c.due("level(3), the WHEEL at 3", y.level(3), 4);
        c.due("brings(60), e left", y.brings(60), 10);
    }

    private static void dry() {
        c.says("DRY of a ROOM: how many of the next k DAYS it is dry behind.");
        DrownedRooms x = Check.in(WAVES + "room a h 9 1;room b h 8 1;room d h 7 1;room e h 10 1;");
        c.due("as high as its FOOT behind it", x.dry(0, 1), 1);
        c.due("the third is WET", x.dry(0, 3), 2);
        c.due("of six", x.dry(0, 6), 4);
        c.due("the lower one, of one", x.dry(1, 1), 0);
        c.due("the lower one, of two", x.dry(1, 2), 1);
        c.due("the lowest", x.dry(2, 60), 0);
        c.due("the highest", x.dry(3, 60), 60);
    }

    private static void staysAre(DrownedRooms x, int[] bytes, int many, int... rooms) {
        StringBuilder call = new StringBuilder("stays of");
        for (int b : bytes) {
            call.append(' ').append(b);
        }
        Check.putBytes(x, bytes);
        c.due(call.toString(), x.stays(), many);
        for (int k = 0; k < rooms.length; k++) {
            c.due(call + ", stayAt(" + k + ")", x.stayAt(k), rooms[k]);
        }
    }

    private static void staysTape() {
        c.says("STAYS by the tape (triples of bytes: a GUEST,");
        DrownedRooms x = Check.in(WAVES + "room a h 20 1;guest e 0 0;guest f 0 0;");
        staysAre(x, new int[] {1, 0, 1}, 1, 0, -1);
        staysAre(x, new int[] {2, 0, 1}, -1, 0, -1);
        staysAre(x, new int[] {128, 0, 1}, -1, 0, -1);
        staysAre(x, new int[] {255, 0, 1}, -1, 0, -1);
        staysAre(x, new int[] {0, 0, 1, 2, 1, 1}, -1, 0, -1);
        staysAre(x, new int[] {0}, -1, 0, -1);
        staysAre(x, new int[] {0, 0}, -1, 0, -1);
        staysAre(x, new int[] {0, 0, 1, 0}, -1, 0, -1);
        staysAre(x, new int[] {0, 0, 1, 0, 0}, -1, 0, -1);
        c.says("from which DAY on (0: the next night; behind so many DAYS more)");
        DrownedRooms w = Check.in(WAVES + "room a h 9 1;guest e 0 0;");
        staysAre(w, new int[] {0, 0, 1}, 1, 0);
        staysAre(w, new int[] {0, 1, 1}, 1, 0);
        staysAre(w, new int[] {0, 2, 1}, 0, -1);
        staysAre(w, new int[] {0, 3, 1}, 1, 0);
        // Behind 252 DAYS it is WET, behind the three that come then not, twice.
        staysAre(w, new int[] {0, 251, 1}, 0, -1);
        staysAre(w, new int[] {0, 252, 2}, 1, 0);
        staysAre(w, new int[] {0, 254, 1}, 0, -1);
        staysAre(w, new int[] {0, 255, 2}, 1, 0);
        staysAre(w, new int[] {0, 128, 1}, 0, -1);
        staysAre(w, new int[] {0, 129, 1}, 1, 0);
        days(w, 1);
        staysAre(w, new int[] {0, 1, 1}, 0, -1);
        c.says("nights (1 to 30)");
        staysAre(x, new int[] {0, 0, 30}, 1, 0);
        staysAre(x, new int[] {0, 0, 0}, -1, 0);
        staysAre(x, new int[] {0, 0, 31}, -1, 0);
        staysAre(x, new int[] {0, 0, 129}, -1, 0);
        staysAre(x, new int[] {0, 0, 255}, -1, 0);
        c.says("1 to 5 of them)");
        staysAre(x, new int[] {0, 0, 1, 0, 1, 1, 0, 2, 1, 0, 3, 1, 0, 4, 1}, 5, 0, 0, 0, 0, 0, -1);
        staysAre(x, new int[] {0, 0, 1, 0, 1, 1, 0, 2, 1, 0, 3, 1, 0, 4, 1, 0, 5, 1}, -1, 0, 0, 0, 0, 0, -1);
        staysAre(x, new int[] {}, -1, 0, 0, 0, 0, 0, -1);
    }

    private static void staysDry() {
        c.says("the most of them that can have a ROOM each");
        DrownedRooms one = Check.in(WAVES + "room a h 20 1;guest e 0 0;");
        // Without the first, which is in the way of both others.
        staysAre(one, new int[] {0, 0, 3, 0, 0, 1, 0, 1, 1}, 2, -1, 0, 0);
        DrownedRooms none = Check.in("guest e 0 0;");
        staysAre(none, new int[] {0, 0, 1}, 0, -1);
        c.says("dry in each of its nights (behind the DAY that ends it;");
        DrownedRooms w = Check.in(WAVES + "room a h 9 1;guest e 0 0;");
        staysAre(w, new int[] {0, 0, 2}, 1, 0);
        staysAre(w, new int[] {0, 0, 3}, 0, -1);
        staysAre(w, new int[] {0, 3, 2}, 1, 0);
        staysAre(w, new int[] {0, 3, 3}, 0, -1);
        staysAre(w, new int[] {0, 2, 2}, 0, -1);
        c.says("no night can be beyond DAY 400)");
        DrownedRooms x = Check.in(WAVES + "room a h 20 1;guest e 0 0;");
        days(x, 370);
        staysAre(x, new int[] {0, 0, 30}, 1, 0);
        staysAre(x, new int[] {0, 1, 30}, 0, -1);
        staysAre(x, new int[] {0, 29, 1}, 1, 0);
        staysAre(x, new int[] {0, 30, 1}, 0, -1);
        staysAre(x, new int[] {0, 255, 30, 0, 0, 1}, 1, -1, 0);
        days(x, 30);
        staysAre(x, new int[] {0, 0, 1}, 0, -1);
        c.says("no ROOM for two in one night");
        staysAre(one, new int[] {0, 0, 2, 0, 2, 1}, 2, 0, 0);
        staysAre(one, new int[] {0, 0, 2, 0, 1, 1}, 1, 0, -1);
        staysAre(one, new int[] {0, 1, 1, 0, 0, 1}, 2, 0, 0);
        staysAre(one, new int[] {0, 1, 1, 0, 0, 2}, 1, 0, -1);
        staysAre(one, new int[] {0, 1, 1, 0, 0, 3}, 1, 0, -1);
        staysAre(one, new int[] {0, 5, 1, 0, 5, 1}, 1, 0, -1);
        c.says("whoever has them now");
        DrownedRooms let = Check.in(WAVES + "room a h 20 1;guest e 99 0;guest f 0 0;sleeps e a 30;");
        staysAre(let, new int[] {1, 0, 5}, 1, 0);
        staysAre(let, new int[] {0, 0, 5}, 1, 0);
    }

    private static void staysFirst() {
        c.says("of like ones the first: STAY by STAY the least ROOM, none behind all.");
        DrownedRooms two = Check.in(WAVES + "room a h 20 1;room b h 20 1;guest e 0 0;");
        staysAre(two, new int[] {0, 0, 1}, 1, 0);
        staysAre(two, new int[] {0, 0, 1, 0, 0, 1}, 2, 0, 1);
        staysAre(two, new int[] {0, 0, 1, 0, 0, 1, 0, 0, 1}, 2, 0, 1, -1);
        staysAre(two, new int[] {0, 0, 1, 0, 1, 1, 0, 0, 2}, 3, 0, 0, 1);
        // The second can have a alone: the first must go to b for that.
        DrownedRooms low = Check.in(WAVES + "room a h 20 1;room b h 9 1;guest e 0 0;");
        staysAre(low, new int[] {0, 0, 2, 0, 0, 3}, 2, 1, 0);
        // A ROOM, if only the last, is ahead of none.
        DrownedRooms last = Check.in(WAVES + "room a h 0 1;room b h 0 1;room d h 9 1;guest e 0 0;");
        staysAre(last, new int[] {0, 0, 1, 0, 0, 2}, 1, 2, -1);
    }

    private static void planIs(DrownedRooms x, int r, int k, int gain, int... wheels) {
        String call = "plan(" + r + ", " + k + ")";
        c.due(call, x.plan(r, k), gain);
        for (int i = 0; i < wheels.length; i++) {
            c.due(call + ", planAt(" + i + ")", x.planAt(i), wheels[i]);
        }
    }

    private static void planTurns() {
        c.says("PLAN for a ROOM in k DAYS: the WHEEL is turned ahead of each DAY to 0 .. 5"
                + " so that the ROOM is dry behind each");
        DrownedRooms x = Check.in("lake 20;mill 99;house h 0 0;room a h 15 1;room b h 14 1;room d h 20 1;room e h 19 1;");
        planIs(x, 0, 1, 0, 5, -1);
        planIs(x, 1, 1, -1, 5, -1);
        planIs(x, 1, 2, -1, 5, -1);
        planIs(x, 2, 1, 0, 0, -1);
        planIs(x, 3, 3, 0, 1, 0, 0, -1);
        // Rain on the third DAY: the second must make room for it.
        DrownedRooms y = Check.in("lake 20;rain 3 9;mill 99;house h 0 0;room a h 20 1;room b h 18 1;");
        planIs(y, 0, 3, 0, 0, 4, 5, -1);
        planIs(y, 1, 3, 0, 2, 4, 5, -1);
        c.due("where it is now stays", y.now(2), 1);
        // 0 at least.
        DrownedRooms z = Check.in("lake 3;mill 0;house h 0 0;room a h 0 1;");
        planIs(z, 0, 2, 10, 5, 5, -1);
    }

    private static void planFirst() {
        c.says("the most that the mills have more then");
        DrownedRooms x = Check.in("lake 20;house h 0 0;room a h 18 1;room b h 20 1;room d h 15 1;");
        planIs(x, 0, 1, 5, 5, -1);
        planIs(x, 1, 2, 10, 5, 5, -1);
        planIs(x, 2, 5, 10, 5, 0, 0, 0, 5, -1);
        x.wheel(4);
        x.days(1);
        c.due("the mills have", x.now(3), 4);
        planIs(x, 0, 1, 5, 5, -1);
        // As high as 'mill' tells, and one less.
        planIs(Check.in("lake 15;house h 0 0;room a h 15 1;"), 0, 1, 5, 5);
        planIs(Check.in("lake 14;house h 0 0;room a h 15 1;"), 0, 1, 0, 0);
        DrownedRooms rain = Check.in("lake 10;rain 1 5;mill 10;house h 0 0;room a h 10 1;room b h 9 1;");
        planIs(rain, 0, 5, 25, 5, 5, 5, 5, 5, -1);
        planIs(rain, 1, 5, -1, 5);
        // The second DAY begins too low for the mills; the rain of that DAY makes it high enough for the third.
        planIs(Check.in("lake 15;rain 2 9;mill 15;house h 0 0;room a h 15 1;"), 0, 3, 10, 5, 4, 5, -1);
        c.says("of like ones the first: DAY by DAY the least.");
        DrownedRooms y = Check.in("lake 20;house h 0 0;room a h 18 1;room b h 20 1;");
        planIs(y, 1, 3, 10, 0, 5, 5, -1);
        planIs(y, 0, 3, 10, 2, 3, 5, -1);
        planIs(y, 1, 5, 10, 0, 0, 0, 5, 5, -1);
    }

    private static void roundIs(DrownedRooms x, int strokes, int... houses) {
        c.due("round()", x.round(), strokes);
        for (int i = 0; i < houses.length; i++) {
            c.due("roundAt(" + i + ")", x.roundAt(i), houses[i]);
        }
        c.due("roundAt behind them", x.roundAt(houses.length), -1);
    }

    /** HOUSES as told, in each a ROOM above all water, and a GUEST in each of these whose number is told. */
    private static DrownedRooms village(int[][] houses, int... slept) {
        StringBuilder s = new StringBuilder();
        for (int h = 0; h < houses.length; h++) {
            s.append("house h").append((char) ('a' + h)).append(' ').append(houses[h][0]).append(' ');
            s.append(houses[h][1]).append(';');
            s.append("room r").append((char) ('a' + h)).append(" h").append((char) ('a' + h)).append(" 99 1;");
        }
        for (int g = 0; g < slept.length; g++) {
            s.append("guest g").append((char) ('a' + g)).append(" 9 9;sleeps g").append((char) ('a' + g));
            s.append(" r").append((char) ('a' + slept[g])).append(" 9;");
        }
        return Check.in(s.toString());
    }

    private static void round() {
        c.says("ROUND: the boat goes from the dam (0, 0) to each HOUSE in which a GUEST has a ROOM and back");
        int[][] houses = {{3, 4}, {20, 20}, {0, 0}};
        roundIs(village(houses), 0);
        roundIs(village(houses, 0), 14, 0);
        roundIs(village(houses, 1), 80, 1);
        roundIs(village(houses, 2), 0, 2);
        DrownedRooms two = Check.in("house a 3 4;house b 9 9;room r a 99 1;room s a 99 1;guest e 9 9;guest f 9 9;"
                + "sleeps e r 1;sleeps f s 1;");
        roundIs(two, 14, 0);
        two.leave(0);
        roundIs(two, 14, 0);
        two.leave(1);
        roundIs(two, 0);
        c.says("the fewest strokes (as many from one to another as X and Y differ, in all)");
        // From (0, 0) by (20, 0), (20, 20), (0, 20): 80; whoever goes across has more.
        int[][] square = {{20, 20}, {20, 0}, {0, 20}};
        roundIs(village(square, 0, 1, 2), 80, 1, 0, 2);
        int[][] line = {{10, 0}, {0, 10}, {15, 0}, {0, 15}};
        roundIs(village(line, 0, 1, 2, 3), 60, 0, 2, 1, 3);
        int[][] five = {{20, 20}, {20, 0}, {0, 20}, {10, 0}, {0, 10}};
        roundIs(village(five, 0, 1, 2, 3, 4), 80, 3, 1, 0, 2, 4);
    }

    private static void roundFirst() {
        c.says("of like ones the first: HOUSE by HOUSE the least.");
        int[][] like = {{5, 0}, {5, 0}, {5, 0}};
        roundIs(village(like, 2, 1, 0), 10, 0, 1, 2);
        roundIs(village(like, 2, 1), 10, 1, 2);
        int[][] there = {{0, 5}, {5, 5}, {5, 0}};
        // There and back by the other way is as long.
        roundIs(village(there, 0, 1, 2), 20, 0, 1, 2);
        int[][] back = {{5, 5}, {5, 0}, {0, 5}};
        roundIs(village(back, 0, 1, 2), 20, 1, 0, 2);
        // On one way from the dam those that are passed can wait for the way back.
        int[][] way = {{9, 0}, {3, 0}, {6, 0}};
        roundIs(village(way, 0, 1, 2), 18, 0, 2, 1);
    }

    private static void marksAre(DrownedRooms x, int[] bytes, int many, int low, int high) {
        StringBuilder call = new StringBuilder("marks of");
        for (int b : bytes) {
            call.append(' ').append(b);
        }
        Check.putBytes(x, bytes);
        c.due(call.toString(), x.marks(), many);
        c.due(call + ", lowest", x.lowest(), low);
        c.due(call + ", highest", x.highest(), high);
    }

    private static void marks() {
        c.says("MARKS by the tape (pairs of bytes: a ROOM, 1 it was WET, 0 it was dry; 1 to 8 of them)");
        DrownedRooms x = Check.in("house h 0 0;room a h 0 1;room b h 50 1;room d h 99 1;");
        marksAre(x, new int[] {1, 1}, 49, 51, 99);
        marksAre(x, new int[] {1, 0}, 51, 0, 50);
        for (int[] wrong : new int[][] {{}, {1}, {1, 1, 1}, {3, 1}, {255, 1}, {128, 0}, {1, 2}, {1, 255}, {1, 128},
            {1, 1, 3, 0}, {1, 1, 1, 2}}) {
            marksAre(x, wrong, -1, 0, 50);
        }
        marksAre(x, new int[] {1, 1, 1, 1, 1, 1, 1, 1, 1, 1, 1, 1, 1, 1, 1, 1}, 49, 51, 99);
        marksAre(x, new int[] {1, 0, 1, 0, 1, 0, 1, 0, 1, 0, 1, 0, 1, 0, 1, 0, 1, 0}, -1, 51, 99);
        marksAre(new DrownedRooms(), new int[] {0, 0}, -1, -1, -1);
        c.says("LEVELS from 0 to 99 that it can have been.");
        marksAre(x, new int[] {0, 1}, 99, 1, 99);
        marksAre(x, new int[] {0, 0}, 1, 0, 0);
        marksAre(x, new int[] {2, 0}, 100, 0, 99);
        marksAre(x, new int[] {2, 1}, 0, 0, 99);
        marksAre(x, new int[] {0, 1, 1, 0}, 50, 1, 50);
        marksAre(x, new int[] {1, 1, 1, 0}, 0, 1, 50);
        marksAre(x, new int[] {0, 0, 1, 1}, 0, 1, 50);
        DrownedRooms near = Check.in("house h 0 0;room a h 49 1;room b h 50 1;");
        marksAre(near, new int[] {0, 1, 1, 0}, 1, 50, 50);
        marksAre(near, new int[] {1, 0, 0, 1}, 1, 50, 50);
        c.due("whatever it is now", near.now(1), 20);
    }

    private static void bell() {
        c.says("BELL: the ROOM by which the greatest number of these that may still be left is the least,"
                + " if one hears whether it was WET (of like ones the first).");
        DrownedRooms x = Check.in("house h 0 0;room a h 99 1;room b h 48 1;room d h 49 1;room e h 50 1;");
        marksAre(x, new int[] {0, 0}, 100, 0, 99);
        c.due("50 and 50", x.bell(), 2);
        marksAre(x, new int[] {0, 0, 3, 0}, 51, 0, 50);
        c.due("49 and 2", x.bell(), 1);
        marksAre(x, new int[] {3, 1}, 49, 51, 99);
        c.due("no ROOM tells more", x.bell(), 0);
        marksAre(x, new int[] {1, 1, 2, 0}, 1, 49, 49);
        c.due("one LEVEL alone", x.bell(), 0);
        // 3 LEVELS: 1 and 2 by the one, 2 and 1 by the other.
        DrownedRooms y = Check.in("house h 0 0;room a h 9 1;room b h 11 1;room d h 10 1;room e h 12 1;");
        marksAre(y, new int[] {0, 1, 3, 0}, 3, 10, 12);
        c.due("of like ones the first", y.bell(), 1);
        DrownedRooms z = Check.in("house h 0 0;room a h 9 1;room b h 10 1;room d h 11 1;room e h 12 1;");
        marksAre(z, new int[] {0, 1, 3, 0}, 3, 10, 12);
        c.due("of like ones the first, the other way round", z.bell(), 1);
        DrownedRooms one = Check.in("house h 0 0;room a h 99 1;");
        marksAre(one, new int[] {0, 0}, 100, 0, 99);
        c.due("all 100 may still be left", one.bell(), 0);
        // Of 10 .. 14 the last alone tells one from four; the others tell nothing.
        DrownedRooms five = Check.in("house h 0 0;room a h 99 1;room b h 9 1;room d h 14 1;room e h 10 1;");
        marksAre(five, new int[] {1, 1, 2, 0}, 5, 10, 14);
        c.due("one and four", five.bell(), 3);
        DrownedRooms deep = Check.in("house h 0 0;room a h 5 1;room b h 9 1;room d h 14 1;");
        marksAre(deep, new int[] {1, 1, 2, 0}, 5, 10, 14);
        c.due("far below tells as little as just below", deep.bell(), 0);
    }

    private static void visits() {
        c.says("VISITS of a GUEST: all others who have a ROOM whose DEPTH is not above his BREATH.");
        DrownedRooms x = Check.in("lake 20;house h 0 0;room a h 15 1;room b h 14 1;room d h 20 1;guest e 9 5;guest f 9 6;"
                + "guest g 9 0;guest i 9 20;sleeps e a 9;sleeps f b 9;sleeps g d 9;");
        c.due("not himself, not the deeper one", x.visits(0), 4);
        c.due("as deep as his BREATH is not above it", x.visits(1), 5);
        c.due("dry ones alone, but himself", x.visits(2), 0);
        c.due("who has none visits too", x.visits(3), 7);
        x.leave(2);
        c.due("who has none is not visited", x.visits(3), 3);
        DrownedRooms alone = Check.in("guest e 9 5;");
        c.due("nobody", alone.visits(0), 0);
    }

    private static void quiet() {
        c.says("QUIET for a GUEST: ROOMS that nobody else has, not deeper than his BREATH,"
                + " in whose HOUSE nobody has one with whom he quarrels.");
        DrownedRooms x = Check.in("lake 20;house h 0 0;house i 0 0;room a h 15 1;room b h 14 1;room d h 20 1;room e i 20 1;"
                + "room f i 20 1;guest k 9 5;guest l 9 20;guest m 9 0;quarrel k m;sleeps k a 9;sleeps l d 9;");
        c.due("his own, as deep as his BREATH; not the deeper one, not l's", x.quiet(0), 25);
        c.due("all but k's", x.quiet(1), 30);
        c.due("where k has one nothing is quiet", x.quiet(2), 24);
        x.take(2, 3, 1);
        c.due("m is in the other HOUSE now", x.quiet(0), 1);
        c.due("his own", x.quiet(2), 24);
        x.leave(0);
        c.due("who has none is not in the way; l's is not free", x.quiet(2), 24);
        x.leave(1);
        c.due("free, and dry", x.quiet(2), 28);
        DrownedRooms none = Check.in("guest k 9 5;");
        c.due("no ROOMS", none.quiet(0), 0);
    }

    private static void bill() {
        c.says("BILL of a GUEST: his NAME, then, if he has a ROOM, ' in ' and its NAME, ' for ' and nights as digits,");
        DrownedRooms x = Check.in("rain 1 1;house h 0 0;room a h 99 9;room abcdefg h 99 1;guest zyxwvut 99 0;guest b 9 0;"
                + "guest d 0 0;sleeps zyxwvut abcdefg 30;sleeps b a 9;");
        c.dueText("bill(0)", Check.billOf(x, 0), "zyxwvut in abcdefg for 30 owns 99");
        c.due("its length", x.bill(0), 33);
        c.dueText("bill(1)", Check.billOf(x, 1), "b in a for 9 owns 9");
        c.says("else ' ashore'");
        c.dueText("bill(2)", Check.billOf(x, 2), "d ashore owns 0");
        c.says("behind it ' owns ' and his PURSE.");
        x.days(1);
        c.dueText("a night later", Check.billOf(x, 0), "zyxwvut in abcdefg for 29 owns 98");
        c.dueText("with nothing", Check.billOf(x, 1), "b in a for 8 owns 0");
        x.days(1);
        c.dueText("he left", Check.billOf(x, 1), "b ashore owns 0");
    }

    private static int seed;

    private static int draw(int n) {
        seed = seed * 1103515245 + 12345;
        return (seed >>> 8) % n;
    }

    private static void draws() {
        c.says("DRAWN by a seed x: for each draw of n x becomes x * 1103515245 + 12345 (an int, wrapping),"
                + " the draw is (x >>> 8) % n");
        // From 0: 12345 >>> 8 is 48, whose rest by 12 is 0: a storm by each 'storm' above 0, none by 0.
        DrownedRooms one = Check.in("lake 50;rain 1 1;storm 1;");
        one.drawn(1, 0);
        c.due("by 0, storm 1", one.now(1), 54);
        DrownedRooms none = Check.in("lake 50;rain 1 1;storm 0;");
        none.drawn(1, 0);
        c.due("by 0, storm 0", none.now(1), 50);
        // From 1: 1103527590 >>> 8 is 4310654, whose rest by 12 is 2.
        DrownedRooms two = Check.in("lake 50;rain 1 1;storm 2;");
        two.drawn(1, 1);
        c.due("by 1, storm 2", two.now(1), 50);
        DrownedRooms three = Check.in("lake 50;rain 1 1;storm 3;");
        three.drawn(1, 1);
        c.due("by 1, storm 3", three.now(1), 54);
        // From -1: -1103502900 >>> 8 is 12466657, whose rest by 12 is 1.
        DrownedRooms less = Check.in("lake 50;rain 1 1;storm 1;");
        less.drawn(1, -1);
        c.due("by -1, storm 1", less.now(1), 50);
        DrownedRooms more = Check.in("lake 50;rain 1 1;storm 2;");
        more.drawn(1, -1);
        c.due("by -1, storm 2", more.now(1), 54);
        for (int from : new int[] {Integer.MAX_VALUE, Integer.MIN_VALUE, Integer.MAX_VALUE - 1, -2, 7}) {
            DrownedRooms x = Check.in("lake 0;rain 1 1;mill 99;storm 6;");
            seed = from;
            int level = 0;
            for (int day = 0; day < 20; day++) {
                level = Math.min(99, level + (draw(12) < 6 ? 4 : 0));
            }
            x.drawn(20, from);
            c.due("the LEVEL by " + from, x.now(1), level);
        }
    }

    /** A village in which DRAWN DAYS go by the test's own telling of them, to be compared. */
    private static final class Guests {
        final int[] room = {-1, -1};
        final int[] nights = {0, 0};
        int refused;
        int left;
        int took;

        void drawFor(int g, int rooms) {
            int lot = draw(8);
            if (lot == 0) {
                left += room[g] >= 0 ? 1 : 0;
                refused += room[g] >= 0 ? 0 : 1;
                room[g] = -1;
                nights[g] = 0;
            } else if (lot == 1 && rooms > 0) {
                int r = draw(rooms);
                boolean can = room[g] < 0 && room[1 - g] != r && r != 2;
                took += can ? 1 : 0;
                refused += can ? 0 : 1;
                if (can) {
                    room[g] = r;
                    nights[g] = 3;
                }
            }
        }

        void night(int g) {
            nights[g] -= room[g] >= 0 ? 1 : 0;
            room[g] = nights[g] == 0 ? -1 : room[g];
        }
    }

    private static void drawnGuests() {
        c.says("each DAY: GUEST by GUEST: a draw of 8: 0 he leaves, 1 a draw of all ROOMS (none: no draw):"
                + " he takes it for 3 nights (each, if he can)");
        int refused = 0;
        int took = 0;
        int left = 0;
        for (int from = 0; from < 40; from++) {
            // ROOM 2 is too deep for both; nobody pays much, the LEVEL stays.
            DrownedRooms x = Check.in("lake 20;rain 1 1;house h 0 0;room a h 20 1;room b h 19 1;room d h 9 1;"
                    + "guest e 99 1;guest f 99 1;");
            Guests told = new Guests();
            seed = from;
            for (int day = 0; day < 25; day++) {
                told.drawFor(0, 3);
                told.drawFor(1, 3);
                draw(12);
                told.night(0);
                told.night(1);
            }
            x.drawn(25, from);
            for (int g = 0; g < 2; g++) {
                c.due("ROOM of " + g + " by " + from, x.guest(g, 2), told.room[g]);
                c.due("nights of " + g + " by " + from, x.guest(g, 3), told.nights[g]);
            }
            refused += told.refused;
            took += told.took;
            left += told.left;
        }
        c.due("some took, some left, some could not", refused > 20 && took > 20 && left > 5, true);
        for (int from = 0; from < 40; from++) {
            DrownedRooms x = Check.in("lake 0;rain 1 1;mill 99;storm 6;guest e 99 1;guest f 99 1;");
            seed = from;
            int level = 0;
            for (int day = 0; day < 9; day++) {
                draw(8);
                draw(8);
                level += draw(12) < 6 ? 4 : 0;
            }
            x.drawn(9, from);
            c.due("no draw without ROOMS, by " + from, x.now(1), level);
        }
    }

    private static void drawnStorms() {
        c.says("a draw of 12: below 'storm' the LEVEL is 4 more (99 at most); then the DAY.");
        DrownedRooms always = Check.in("lake 20;rain 1 1;mill 24;storm 12;");
        always.drawn(1, 5);
        c.due("12 is above each draw", always.now(1), 24);
        c.due("the storm is ahead of the mills", always.now(3), 1);
        DrownedRooms never = Check.in("lake 20;rain 1 1;mill 24;storm 0;");
        never.drawn(60, 5);
        c.due("0 is above none", never.now(1), 20);
        for (int level = 94; level <= 99; level++) {
            DrownedRooms x = Check.in("lake " + level + ";rain 1 1;storm 12;");
            x.wheel(3);
            x.drawn(1, 5);
            c.due("99 at most, then the DAY, from " + level, x.now(1), Math.min(99, level + 4) - 2);
        }
        // By the LEVEL of the storm he leaves; he takes by the LEVEL ahead of it.
        DrownedRooms deep = Check.in("lake 20;rain 1 1;storm 12;house h 0 0;room a h 20 1;guest e 9 3;sleeps e a 9;");
        deep.drawn(1, 0);
        c.due("the draw of 8 by 0 is 0, he left", deep.guest(0, 2), -1);
        // From 1 the draw of 8 is 6: nothing.
        DrownedRooms stays = Check.in("lake 20;rain 1 1;storm 12;house h 0 0;room a h 20 1;guest e 9 4;sleeps e a 9;");
        stays.drawn(1, 1);
        c.due("as deep as his BREATH", stays.guest(0, 4), 1);
        DrownedRooms leaves = Check.in("lake 20;rain 1 1;storm 12;house h 0 0;room a h 20 1;guest e 9 3;sleeps e a 9;");
        leaves.drawn(1, 1);
        c.due("deeper by one", leaves.guest(0, 2), -1);
        c.due("no WET night", leaves.guest(0, 4), 0);
        // A draw is made though 'storm' is 0: the second DAY's draw of 8 is the third of all.
        int moved = 0;
        for (int from = 0; from < 60; from++) {
            DrownedRooms x = Check.in("lake 20;rain 1 1;storm 0;house h 0 0;room a h 20 1;guest e 9 3;sleeps e a 9;");
            seed = from;
            Guests told = new Guests();
            told.room[0] = 0;
            told.nights[0] = 9;
            for (int day = 0; day < 2; day++) {
                told.drawFor(0, 1);
                draw(12);
                told.night(0);
            }
            x.drawn(2, from);
            c.due("ROOM by " + from, x.guest(0, 2), told.room[0]);
            moved += told.left;
        }
        c.due("some left", moved > 3, true);
    }
}
