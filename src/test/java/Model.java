import java.util.ArrayDeque;
import java.util.ArrayList;
import java.util.Arrays;
import java.util.HashMap;
import java.util.List;
import java.util.Map;
import java.util.NoSuchElementException;
import java.util.Set;
import java.util.function.Predicate;

/** The document told a second time, by brute force and with the whole library: what DrownedRooms is compared with. */
final class Model {
    static final Set<String> KEYWORDS = Set.of("lake", "rain", "mill", "storm", "house", "room", "guest", "quarrel",
            "sleeps", "takes", "leaves", "wheel", "day", "or", "and", "not", "wet", "let", "in", "has", "foot",
            "price", "depth", "number");

    // What comes behind a VALLEY's first WORDS: N.least.most a number, + a new name, H R G a known one.
    static final Map<String, String> SHAPES = Map.of("lake", "N.0.99", "rain", "N.1.30 N.0.9", "mill", "N.0.99",
            "storm", "N.0.12", "house", "+ N.0.20 N.0.20", "room", "+ H N.0.99 N.1.30", "guest", "+ N.0.99 N.0.20",
            "quarrel", "G G", "sleeps", "G R N.1.30");

    static final class Fault extends RuntimeException {
        final int kind;
        final int place;

        Fault(int kind, int place) {
            super(null, null, false, false);
            this.kind = kind;
            this.place = place;
        }
    }

    record Token(String text, int place) {
        boolean isWord() {
            return text.matches("[a-z]{1,7}");
        }

        boolean isNumber() {
            return text.matches("[0-9]{1,3}");
        }

        boolean isName() {
            return isWord() && !KEYWORDS.contains(text);
        }

        Fault fault(int kind) {
            return new Fault(kind, place);
        }
    }

    /** All TOKENS of a text; the last one is empty at the end, or "?" where something is no TOKEN. */
    static List<Token> tokens(String text, int most) {
        List<Token> all = new ArrayList<>();
        int i = 0;
        while (true) {
            while (i < text.length() && (text.charAt(i) == ' ' || text.charAt(i) == '\n')) {
                i++;
            }
            if (text.length() > most && i >= most) {
                all.add(new Token("?", most));
                return all;
            }
            if (i == text.length()) {
                all.add(new Token("", i));
                return all;
            }
            int j = i;
            while (j < text.length() && String.valueOf(text.charAt(j)).matches("[a-z0-9]")) {
                j++;
            }
            String run = j > i ? text.substring(i, j) : text.substring(i, i + 1);
            if (!run.matches("[a-z]{1,7}|[0-9]{1,3}|[;<=>()]")) {
                all.add(new Token("?", i));
                return all;
            }
            all.add(new Token(run, i));
            i += run.length();
        }
    }

    static final class House {
        String name;
        int x;
        int y;
    }

    static final class Room {
        String name;
        int house;
        int foot;
        int price;
        int brought;

        Room copy() {
            Room r = new Room();
            r.name = name;
            r.house = house;
            r.foot = foot;
            r.price = price;
            r.brought = brought;
            return r;
        }
    }

    static final class Guest {
        String name;
        int purse;
        int breath;
        int room = -1;
        int nights;
        int wet;
        int foes;

        Guest copy() {
            Guest g = new Guest();
            g.name = name;
            g.purse = purse;
            g.breath = breath;
            g.room = room;
            g.nights = nights;
            g.wet = wet;
            g.foes = foes;
            return g;
        }
    }

    static final class World {
        int every = 7;
        int rise = 3;
        int mill = 15;
        int storm = 0;
        int day = 0;
        int level = 20;
        int wheel = 1;
        int mills = 0;
        List<House> houses = new ArrayList<>();
        List<Room> rooms = new ArrayList<>();
        List<Guest> guests = new ArrayList<>();

        World copy() {
            World w = new World();
            w.every = every;
            w.rise = rise;
            w.mill = mill;
            w.storm = storm;
            w.day = day;
            w.level = level;
            w.wheel = wheel;
            w.mills = mills;
            w.houses.addAll(houses);
            for (Room r : rooms) {
                w.rooms.add(r.copy());
            }
            for (Guest g : guests) {
                w.guests.add(g.copy());
            }
            return w;
        }

        int depth(Room r) {
            return level > r.foot ? level - r.foot : 0;
        }

        int who(int r) {
            for (int g = 0; g < guests.size(); g++) {
                if (guests.get(g).room == r) {
                    return g;
                }
            }
            return -1;
        }

        int take(int g, int r, int n) {
            if (guests.get(g).room >= 0) {
                return 1;
            }
            if (who(r) >= 0) {
                return 2;
            }
            if (depth(rooms.get(r)) > guests.get(g).breath) {
                return 3;
            }
            guests.get(g).room = r;
            guests.get(g).nights = n;
            return 0;
        }

        int leave(int g) {
            if (guests.get(g).room < 0) {
                return 1;
            }
            guests.get(g).room = -1;
            guests.get(g).nights = 0;
            return 0;
        }

        boolean goDay() {
            if (day == 400) {
                return false;
            }
            if (level >= mill) {
                mills += wheel;
            }
            int change = -wheel;
            if ((day + 1) % every == 0) {
                change += rise;
            }
            level += change;
            if (level < 0) {
                level = 0;
            }
            if (level > 99) {
                level = 99;
            }
            for (int g = 0; g < guests.size(); g++) {
                night(g);
            }
            day++;
            return true;
        }

        private void night(int g) {
            Guest who = guests.get(g);
            if (who.room < 0) {
                return;
            }
            Room r = rooms.get(who.room);
            if (depth(r) > who.breath) {
                leave(g);
                return;
            }
            if (level > r.foot) {
                who.wet++;
            } else if (who.purse >= r.price) {
                who.purse -= r.price;
                r.brought += r.price;
            } else {
                leave(g);
                return;
            }
            if (--who.nights == 0) {
                leave(g);
            }
        }

        int goDays(int n) {
            int gone = 0;
            while (gone < n && goDay()) {
                gone++;
            }
            return gone;
        }

        int goDrawn(int n, int seed) {
            int[] x = {seed};
            int gone = 0;
            while (gone < n && day < 400) {
                for (int g = 0; g < guests.size(); g++) {
                    int lot = draw(x, 8);
                    if (lot == 0) {
                        leave(g);
                    }
                    if (lot == 1 && !rooms.isEmpty()) {
                        take(g, draw(x, rooms.size()), 3);
                    }
                }
                if (draw(x, 12) < storm) {
                    level = Math.min(99, level + 4);
                }
                goDay();
                gone++;
            }
            return gone;
        }

        private static int draw(int[] x, int n) {
            x[0] = x[0] * 1103515245 + 12345;
            return (x[0] >>> 8) % n;
        }

        int brought() {
            return rooms.stream().mapToInt(r -> r.brought).sum();
        }

        int roomNamed(String name) {
            for (int i = 0; i < rooms.size(); i++) {
                if (rooms.get(i).name.equals(name)) {
                    return i;
                }
            }
            return -1;
        }

        int guestNamed(String name) {
            for (int i = 0; i < guests.size(); i++) {
                if (guests.get(i).name.equals(name)) {
                    return i;
                }
            }
            return -1;
        }

        int houseNamed(String name) {
            for (int i = 0; i < houses.size(); i++) {
                if (houses.get(i).name.equals(name)) {
                    return i;
                }
            }
            return -1;
        }

        int named(char sort, Token t) {
            if (!t.isName()) {
                throw t.fault(1);
            }
            int i = sort == 'H' ? houseNamed(t.text) : sort == 'R' ? roomNamed(t.text) : guestNamed(t.text);
            if (i < 0) {
                throw t.fault(3);
            }
            return i;
        }
    }

    interface Said {
        boolean of(World w, int room);
    }

    final StringBuilder tape = new StringBuilder();
    World world = new World();
    Said sentence;
    final ArrayDeque<World> past = new ArrayDeque<>();
    final World[] keptWorld = new World[2];
    final Said[] keptSentence = new Said[2];
    int fault;
    int[] stayRooms = {};
    int[] planWheels = {};
    int[] roundHouses = {};
    List<Integer> levels = List.of();
    int bell = -1;
    String bill = "";
    int[] verdict;

    int feed(int... numbers) {
        if (tape.length() + 20 > 940) {
            return -1;
        }
        for (int n : numbers) {
            for (int k = 3; k >= 0; k--) {
                tape.append((char) (n >> 8 * k & 255));
            }
        }
        return tape.length();
    }

    boolean end(int n) {
        if (n < 0 || n > tape.length()) {
            return false;
        }
        tape.setLength(n);
        return true;
    }

    private String takeTape() {
        String text = tape.toString();
        tape.setLength(0);
        return text;
    }

    int valley() {
        try {
            World w = new World();
            int lines = readValley(takeTape(), w);
            world = w;
            sentence = null;
            past.clear();
            fault = 0;
            return lines;
        } catch (Fault f) {
            fault = f.kind;
            return -1 - f.place;
        }
    }

    private static int readValley(String text, World w) {
        List<Token> all = tokens(text, 900);
        Map<String, Integer> told = new HashMap<>();
        List<String> names = new ArrayList<>();
        int lines = 0;
        int i = 0;
        while (!all.get(i).text.isEmpty()) {
            Token first = all.get(i++);
            String shape = SHAPES.get(first.text);
            if (shape == null) {
                throw first.fault(1);
            }
            int before = told.merge(first.text, 1, Integer::sum) - 1;
            if (List.of("lake", "rain", "mill", "storm").contains(first.text) && before == 1) {
                throw first.fault(3);
            }
            Integer most = Map.of("house", 5, "room", 8, "guest", 6).get(first.text);
            if (most != null && before == most) {
                throw first.fault(4);
            }
            List<Integer> numbers = new ArrayList<>();
            String newName = null;
            for (String part : shape.split(" ")) {
                Token t = all.get(i++);
                if (part.equals("+")) {
                    if (!t.isName()) {
                        throw t.fault(1);
                    }
                    if (names.contains(t.text)) {
                        throw t.fault(3);
                    }
                    names.add(t.text);
                    newName = t.text;
                } else if (part.startsWith("N")) {
                    numbers.add(number(t, part));
                } else {
                    int who = w.named(part.charAt(0), t);
                    checkPairs(w, first.text, part, numbers, who, t);
                    numbers.add(who);
                }
            }
            putLine(w, first.text, newName, numbers);
            if (!all.get(i).text.equals(";")) {
                throw all.get(i).fault(1);
            }
            i++;
            lines++;
        }
        return lines;
    }

    private static void checkPairs(World w, String line, String part, List<Integer> numbers, int who, Token t) {
        if (line.equals("quarrel") && numbers.size() == 1) {
            int one = numbers.get(0);
            if (one == who || (w.guests.get(one).foes & 1 << who) != 0) {
                throw t.fault(3);
            }
        }
        if (line.equals("sleeps")) {
            boolean again = part.equals("G") ? w.guests.get(who).room >= 0 : w.who(who) >= 0;
            if (again) {
                throw t.fault(3);
            }
        }
    }

    private static int number(Token t, String part) {
        if (!t.isNumber()) {
            throw t.fault(1);
        }
        int n = Integer.parseInt(t.text);
        String[] range = part.split("\\.");
        if (n < Integer.parseInt(range[1]) || n > Integer.parseInt(range[2])) {
            throw t.fault(2);
        }
        return n;
    }

    private static void putLine(World w, String line, String name, List<Integer> n) {
        switch (line) {
            case "lake" -> w.level = n.get(0);
            case "rain" -> {
                w.every = n.get(0);
                w.rise = n.get(1);
            }
            case "mill" -> w.mill = n.get(0);
            case "storm" -> w.storm = n.get(0);
            case "house" -> {
                House h = new House();
                h.name = name;
                h.x = n.get(0);
                h.y = n.get(1);
                w.houses.add(h);
            }
            case "room" -> {
                Room r = new Room();
                r.name = name;
                r.house = n.get(0);
                r.foot = n.get(1);
                r.price = n.get(2);
                w.rooms.add(r);
            }
            case "guest" -> {
                Guest g = new Guest();
                g.name = name;
                g.purse = n.get(0);
                g.breath = n.get(1);
                w.guests.add(g);
            }
            case "quarrel" -> {
                w.guests.get(n.get(0)).foes |= 1 << n.get(1);
                w.guests.get(n.get(1)).foes |= 1 << n.get(0);
            }
            default -> {
                w.guests.get(n.get(0)).room = n.get(1);
                w.guests.get(n.get(0)).nights = n.get(2);
            }
        }
    }

    int fault() {
        return fault;
    }

    int room(int r, int what) {
        if (r < 0 || r >= world.rooms.size() || what < 0 || what > 5) {
            throw new NoSuchElementException();
        }
        Room it = world.rooms.get(r);
        return new int[] {it.house, it.foot, it.price, world.depth(it), world.who(r), it.brought}[what];
    }

    int guest(int g, int what) {
        if (g < 0 || g >= world.guests.size() || what < 0 || what > 5) {
            throw new NoSuchElementException();
        }
        Guest it = world.guests.get(g);
        return new int[] {it.purse, it.breath, it.room, it.nights, it.wet, it.foes}[what];
    }

    private int roomBits(Predicate<Integer> test) {
        int bits = 0;
        for (int r = 0; r < world.rooms.size(); r++) {
            bits += test.test(r) ? 1 << r : 0;
        }
        return bits;
    }

    int now(int what) {
        if (what < 0 || what > 6) {
            return -1;
        }
        return new int[] {world.day, world.level, world.wheel, world.mills,
            roomBits(r -> world.level > world.rooms.get(r).foot), roomBits(r -> world.who(r) >= 0),
            world.brought()}[what];
    }

    private void keep() {
        past.addLast(world.copy());
        if (past.size() > 8) {
            past.removeFirst();
        }
    }

    private boolean isGuest(int g) {
        return g >= 0 && g < world.guests.size();
    }

    private boolean isRoom(int r) {
        return r >= 0 && r < world.rooms.size();
    }

    int take(int g, int r, int n) {
        if (!isGuest(g) || !isRoom(r) || n < 1 || n > 30) {
            return -1;
        }
        World before = world.copy();
        int why = world.take(g, r, n);
        done(why == 0, before);
        return why;
    }

    private void done(boolean was, World before) {
        if (was) {
            World after = world;
            world = before;
            keep();
            world = after;
        }
    }

    int leave(int g) {
        if (!isGuest(g)) {
            return -1;
        }
        World before = world.copy();
        int why = world.leave(g);
        done(why == 0, before);
        return why;
    }

    int wheel(int n) {
        if (n < 0 || n > 5) {
            return -1;
        }
        if (world.wheel == n) {
            return 1;
        }
        keep();
        world.wheel = n;
        return 0;
    }

    int days(int n) {
        if (n < 1 || n > 60) {
            return -1;
        }
        World before = world.copy();
        int gone = world.goDays(n);
        done(gone > 0, before);
        return gone;
    }

    int undo() {
        if (past.isEmpty()) {
            return -1;
        }
        world = past.removeLast();
        return past.size();
    }

    int level(int n) {
        if (n < 0 || n > 60) {
            return -1;
        }
        World w = world.copy();
        return w.goDays(n) < n ? -1 : w.level;
    }

    int dry(int r, int k) {
        if (!isRoom(r) || k < 1 || k > 60) {
            return -1;
        }
        World w = world.copy();
        int dry = 0;
        for (int i = 0; i < k && w.goDay(); i++) {
            dry += w.level <= w.rooms.get(r).foot ? 1 : 0;
        }
        return dry;
    }

    int wets(int r) {
        if (!isRoom(r)) {
            return -1;
        }
        for (int n = 0; n <= 60; n++) {
            int level = level(n);
            if (level >= 0 && level > world.rooms.get(r).foot) {
                return n;
            }
        }
        return -1;
    }

    int stays() {
        String t = takeTape();
        int many = t.length() / 3;
        if (t.length() % 3 != 0 || many < 1 || many > 5) {
            return -1;
        }
        for (int k = 0; k < many; k++) {
            if (t.charAt(3 * k) >= world.guests.size() || t.charAt(3 * k + 2) < 1 || t.charAt(3 * k + 2) > 30) {
                return -1;
            }
        }
        World w = world.copy();
        int[] ahead = new int[300];
        Arrays.fill(ahead, 1000);
        for (int i = 0; i < 300 && w.goDay(); i++) {
            ahead[i] = w.level;
        }
        int rooms = world.rooms.size();
        int all = (int) Math.pow(rooms + 1, many);
        int best = -1;
        for (int code = 0; code < all; code++) {
            int[] chosen = new int[many];
            int rest = code;
            for (int k = many - 1; k >= 0; k--) {
                chosen[k] = rest % (rooms + 1);
                rest /= rooms + 1;
            }
            int let = letIfGood(chosen, t, ahead, rooms);
            if (let > best) {
                best = let;
                stayRooms = new int[many];
                for (int k = 0; k < many; k++) {
                    stayRooms[k] = chosen[k] == rooms ? -1 : chosen[k];
                }
            }
        }
        return best;
    }

    private int letIfGood(int[] chosen, String t, int[] ahead, int rooms) {
        boolean[][] used = new boolean[rooms][300];
        int let = 0;
        for (int k = 0; k < chosen.length; k++) {
            if (chosen[k] == rooms) {
                continue;
            }
            let++;
            int from = t.charAt(3 * k + 1);
            for (int night = from; night < from + t.charAt(3 * k + 2); night++) {
                if (used[chosen[k]][night] || ahead[night] > world.rooms.get(chosen[k]).foot) {
                    return -1;
                }
                used[chosen[k]][night] = true;
            }
        }
        return let;
    }

    int stayAt(int k) {
        return at(stayRooms, k);
    }

    private static int at(int[] row, int i) {
        return i >= 0 && i < row.length ? row[i] : -1;
    }

    int plan(int r, int k) {
        if (!isRoom(r) || k < 1 || k > 5 || 400 - world.day < k) {
            return -1;
        }
        int best = -1;
        for (int code = 0; code < (int) Math.pow(6, k); code++) {
            World w = new World();
            w.every = world.every;
            w.rise = world.rise;
            w.mill = world.mill;
            w.day = world.day;
            w.level = world.level;
            int[] wheels = new int[k];
            int rest = code;
            for (int i = k - 1; i >= 0; i--) {
                wheels[i] = rest % 6;
                rest /= 6;
            }
            boolean good = true;
            for (int i = 0; i < k; i++) {
                w.wheel = wheels[i];
                w.goDay();
                good &= w.level <= world.rooms.get(r).foot;
            }
            if (good && w.mills > best) {
                best = w.mills;
                planWheels = wheels;
            }
        }
        return best;
    }

    int planAt(int i) {
        return at(planWheels, i);
    }

    int round() {
        List<Integer> toSee = new ArrayList<>();
        for (int h = 0; h < world.houses.size(); h++) {
            for (Guest g : world.guests) {
                if (g.room >= 0 && world.rooms.get(g.room).house == h && !toSee.contains(h)) {
                    toSee.add(h);
                }
            }
        }
        int[] best = {1000000};
        permute(new ArrayList<>(), toSee, best);
        return best[0];
    }

    private void permute(List<Integer> row, List<Integer> all, int[] best) {
        if (row.size() == all.size()) {
            int strokes = 0;
            int x = 0;
            int y = 0;
            for (int h : row) {
                strokes += Math.abs(x - world.houses.get(h).x) + Math.abs(y - world.houses.get(h).y);
                x = world.houses.get(h).x;
                y = world.houses.get(h).y;
            }
            strokes += x + y;
            if (strokes < best[0]) {
                best[0] = strokes;
                roundHouses = row.stream().mapToInt(h -> h).toArray();
            }
            return;
        }
        for (int h : all) {
            if (!row.contains(h)) {
                List<Integer> longer = new ArrayList<>(row);
                longer.add(h);
                permute(longer, all, best);
            }
        }
    }

    int roundAt(int i) {
        return at(roundHouses, i);
    }

    int marks() {
        String t = takeTape();
        if (t.isEmpty() || t.length() % 2 != 0 || t.length() > 16) {
            return -1;
        }
        List<Integer> left = new ArrayList<>();
        for (int level = 0; level <= 99; level++) {
            boolean can = true;
            for (int k = 0; k < t.length(); k += 2) {
                if (t.charAt(k) >= world.rooms.size() || t.charAt(k + 1) > 1) {
                    return -1;
                }
                can &= (level > world.rooms.get(t.charAt(k)).foot) == (t.charAt(k + 1) == 1);
            }
            if (can) {
                left.add(level);
            }
        }
        if (!left.isEmpty()) {
            levels = left;
            int best = 1000;
            for (int r = 0; r < world.rooms.size(); r++) {
                int foot = world.rooms.get(r).foot;
                int wet = (int) left.stream().filter(level -> level > foot).count();
                if (Math.max(wet, left.size() - wet) < best) {
                    best = Math.max(wet, left.size() - wet);
                    bell = r;
                }
            }
        }
        return left.size();
    }

    int lowest() {
        return levels.isEmpty() ? -1 : levels.get(0);
    }

    int highest() {
        return levels.isEmpty() ? -1 : levels.get(levels.size() - 1);
    }

    int bell() {
        return bell;
    }

    int visits(int g) {
        if (!isGuest(g)) {
            return -1;
        }
        int bits = 0;
        for (int o = 0; o < world.guests.size(); o++) {
            int r = world.guests.get(o).room;
            if (o != g && r >= 0 && world.depth(world.rooms.get(r)) <= world.guests.get(g).breath) {
                bits |= 1 << o;
            }
        }
        return bits;
    }

    int quiet(int g) {
        if (!isGuest(g)) {
            return -1;
        }
        Guest me = world.guests.get(g);
        return roomBits(r -> {
            if (world.who(r) >= 0 && world.who(r) != g || world.depth(world.rooms.get(r)) > me.breath) {
                return false;
            }
            for (int o = 0; o < world.guests.size(); o++) {
                int its = world.guests.get(o).room;
                if ((me.foes & 1 << o) != 0 && its >= 0
                        && world.rooms.get(its).house == world.rooms.get(r).house) {
                    return false;
                }
            }
            return true;
        });
    }

    int quarrels() {
        int twice = 0;
        for (Guest a : world.guests) {
            for (int o = 0; o < world.guests.size(); o++) {
                Guest b = world.guests.get(o);
                if ((a.foes & 1 << o) != 0 && a.room >= 0 && b.room >= 0
                        && world.rooms.get(a.room).house == world.rooms.get(b.room).house) {
                    twice++;
                }
            }
        }
        return twice / 2;
    }

    int brings(int n) {
        if (n < 1 || n > 60) {
            return -1;
        }
        World w = world.copy();
        w.goDays(n);
        return w.brought() - world.brought();
    }

    int bill(int g) {
        if (!isGuest(g)) {
            return -1;
        }
        Guest it = world.guests.get(g);
        bill = it.name + (it.room < 0 ? " ashore" : " in " + world.rooms.get(it.room).name + " for " + it.nights)
                + " owns " + it.purse;
        return bill.length();
    }

    int byteAt(int i) {
        return i >= 0 && i < bill.length() ? bill.charAt(i) : -1;
    }

    int drawn(int n, int seed) {
        if (n < 1 || n > 60) {
            return -1;
        }
        World before = world.copy();
        int gone = world.goDrawn(n, seed);
        done(gone > 0, before);
        return gone;
    }

    int odds(int r, int n, int seed) {
        if (!isRoom(r) || n < 1 || n > 30) {
            return -1;
        }
        int dry = 0;
        for (int i = 0; i < n; i++) {
            World w = world.copy();
            w.goDrawn(20, seed + i);
            dry += w.level <= w.rooms.get(r).foot ? 1 : 0;
        }
        return dry;
    }

    int book(int lives) {
        if (lives < 0 || lives > 1) {
            return -1000;
        }
        List<int[]> lines;
        try {
            lines = readBook(takeTape());
            fault = 0;
        } catch (Fault f) {
            fault = f.kind;
            return -2 - f.place;
        }
        World w = world.copy();
        int why = 0;
        int i = 0;
        while (i < lines.size() && (why = liveLine(w, lines.get(i))) == 0) {
            i++;
        }
        verdict = new int[] {why, i, w.day, w.level};
        if (lives == 1) {
            keep();
            world = w;
        }
        return why == 0 ? -1 : i;
    }

    private static int liveLine(World w, int[] line) {
        switch (line[0]) {
            case 0:
                return w.take(line[1], line[2], line[3]);
            case 1:
                return w.leave(line[1]) == 0 ? 0 : 11;
            case 2:
                if (w.wheel == line[1]) {
                    return 21;
                }
                w.wheel = line[1];
                return 0;
            default:
                if (400 - w.day < line[1]) {
                    return 31;
                }
                w.goDays(line[1]);
                return 0;
        }
    }

    private List<int[]> readBook(String text) {
        List<Token> all = tokens(text, 400);
        List<int[]> lines = new ArrayList<>();
        int i = 0;
        while (!all.get(i).text.isEmpty()) {
            Token first = all.get(i++);
            boolean plain = first.text.equals("wheel") || first.text.equals("day");
            int who = plain ? -1 : world.named('G', first);
            if (lines.size() == 40) {
                throw first.fault(4);
            }
            if (plain) {
                boolean turn = first.text.equals("wheel");
                lines.add(new int[] {turn ? 2 : 3, number(all.get(i++), turn ? "N.0.5" : "N.1.60")});
            } else {
                Token verb = all.get(i++);
                if (verb.text.equals("leaves")) {
                    lines.add(new int[] {1, who});
                } else if (verb.text.equals("takes")) {
                    int r = world.named('R', all.get(i++));
                    lines.add(new int[] {0, who, r, number(all.get(i++), "N.1.30")});
                } else {
                    throw verb.fault(1);
                }
            }
            if (!all.get(i).text.equals(";")) {
                throw all.get(i).fault(1);
            }
            i++;
        }
        return lines;
    }

    int told(int what) {
        return verdict == null ? -1 : at(verdict, what);
    }

    private List<Token> read;
    private int at;
    private int ones;

    int sentence() {
        try {
            read = tokens(takeTape(), 200);
            at = 0;
            ones = 0;
            Said said = cond(1);
            if (!read.get(at).text.isEmpty()) {
                throw read.get(at).fault(1);
            }
            sentence = said;
            fault = 0;
            return ones;
        } catch (Fault f) {
            fault = f.kind;
            return -1 - f.place;
        }
    }

    private Said cond(int within) {
        Said left = all(within);
        while (read.get(at).text.equals("or")) {
            at++;
            Said a = left;
            Said b = all(within);
            left = (w, r) -> a.of(w, r) || b.of(w, r);
        }
        return left;
    }

    private Said all(int within) {
        Said left = one(within);
        while (read.get(at).text.equals("and")) {
            at++;
            Said a = left;
            Said b = one(within);
            left = (w, r) -> a.of(w, r) && b.of(w, r);
        }
        return left;
    }

    private Said one(int within) {
        Token first = read.get(at);
        if (!List.of("not", "(", "wet", "let", "in", "has", "foot", "price", "depth", "number").contains(first.text)) {
            throw first.fault(1);
        }
        if (ones == 20 || within == 9) {
            throw first.fault(4);
        }
        ones++;
        at++;
        switch (first.text) {
            case "not": {
                Said it = one(within + 1);
                return (w, r) -> !it.of(w, r);
            }
            case "(": {
                Said it = cond(within + 1);
                if (!read.get(at).text.equals(")")) {
                    throw read.get(at).fault(1);
                }
                at++;
                return it;
            }
            case "wet":
                return (w, r) -> w.level > w.rooms.get(r).foot;
            case "let":
                return (w, r) -> w.who(r) >= 0;
            case "in": {
                int h = world.named('H', read.get(at++));
                return (w, r) -> w.rooms.get(r).house == h;
            }
            case "has": {
                int g = world.named('G', read.get(at++));
                return (w, r) -> w.guests.get(g).room == r;
            }
            default:
                return compared(first.text);
        }
    }

    private Said compared(String what) {
        String sign = read.get(at).text;
        if (!sign.matches("[<=>]")) {
            throw read.get(at).fault(1);
        }
        at++;
        int n = number(read.get(at), "N.0.999");
        at++;
        return (w, r) -> {
            Room it = w.rooms.get(r);
            int value = what.equals("foot") ? it.foot : what.equals("price") ? it.price
                    : what.equals("depth") ? w.depth(it) : r;
            return sign.equals("<") ? value < n : sign.equals(">") ? value > n : value == n;
        };
    }

    int said(int k) {
        if (sentence == null) {
            return -1;
        }
        List<Integer> rooms = new ArrayList<>();
        for (int r = 0; r < world.rooms.size(); r++) {
            if (sentence.of(world, r)) {
                rooms.add(r);
            }
        }
        return k == -1 ? rooms.size() : k >= 0 && k < rooms.size() ? rooms.get(k) : -1;
    }

    boolean image(int k) {
        if (k < 0 || k > 1) {
            return false;
        }
        keptWorld[k] = world.copy();
        keptSentence[k] = sentence;
        return true;
    }

    boolean restore(int k) {
        if (k < 0 || k > 1 || keptWorld[k] == null) {
            return false;
        }
        world = keptWorld[k].copy();
        sentence = keptSentence[k];
        past.clear();
        return true;
    }

    int count(int what) {
        if (what < 0 || what > 7) {
            return -1;
        }
        return new int[] {world.houses.size(), world.rooms.size(), world.guests.size(), world.every, world.rise,
            world.mill, world.storm, tape.length()}[what];
    }
}
