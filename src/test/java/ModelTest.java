import java.util.ArrayList;
import java.util.List;
import java.util.NoSuchElementException;
import java.util.Random;

/** Long random runs of calls, each answer compared with the model's; the seeds are fixed. */
public final class ModelTest {
    private static final String[] WORDS = {"lake", "rain", "mill", "storm", "house", "room", "guest", "quarrel",
        "sleeps", "takes", "leaves", "wheel", "day", "or", "and", "not", "wet", "let", "in", "has", "foot", "price",
        "depth", "number"};

    private final Random random;
    private final DrownedRooms real = new DrownedRooms();
    private final Model model = new Model();
    private final List<String> log = new ArrayList<>();
    private final List<String> houses = new ArrayList<>();
    private final List<String> rooms = new ArrayList<>();
    private final List<String> guests = new ArrayList<>();
    private int calls;
    static int texts;
    static int faults;

    private ModelTest(long seed) {
        random = new Random(seed);
    }

    public static void main(String[] args) {
        int runs = args.length > 0 ? Integer.parseInt(args[0]) : 600;
        for (int seed = 0; seed < runs; seed++) {
            ModelTest run = new ModelTest(seed);
            String wrong = run.go();
            if (wrong != null) {
                int from = Math.max(0, run.log.size() - 60);
                for (String line : run.log.subList(from, run.log.size())) {
                    System.out.println(line);
                }
                System.out.println("seed " + seed + ": " + wrong);
                System.exit(1);
            }
        }
        System.out.println("ModelTest: all answers are as due (" + runs + " runs, " + texts + " texts, " + faults
                + " with a fault)");
    }

    /** A step makes fewer than 70 calls, so that an object has at most the 512 that the document speaks of. */
    private String go() {
        while (calls < 442) {
            String wrong = step();
            if (wrong != null) {
                return wrong;
            }
        }
        return null;
    }

    private String step() {
        int pick = random.nextInt(100);
        if (calls == 0 && pick < 85) {
            return text(richValley(), 0);
        }
        if (calls == 0 || pick < 2) {
            return text(random.nextInt(3) > 0 ? mangled(valleyText()) : mangled(richValley()), 0);
        }
        if (pick < 9) {
            return text(mangled(bookText()), 1);
        }
        if (pick < 15) {
            return text(mangled(cond(0)), 2);
        }
        if (pick < 18) {
            return text(stayBytes(), 3);
        }
        if (pick < 21) {
            return text(markBytes(), 4);
        }
        if (pick < 30) {
            return compareAll();
        }
        return plainCall(random.nextInt(34));
    }

    private String due(String call, long got, long want) {
        calls++;
        log.add(call + " = " + got);
        return got == want ? null : call + " answered " + got + ", due is " + want;
    }

    private static long asLong(boolean b) {
        return b ? 1 : 0;
    }

    private int any(int least, int most) {
        return least + random.nextInt(most - least + 1);
    }

    /** Mostly within the range, at times at its edges or just beyond them. */
    private int near(int least, int most) {
        int pick = random.nextInt(20);
        if (pick == 0) {
            return least - 1;
        }
        if (pick == 1) {
            return most + 1;
        }
        if (pick == 2) {
            return random.nextInt();
        }
        if (pick == 3) {
            return most;
        }
        if (pick == 4) {
            return least;
        }
        return any(least, most);
    }

    private String text(String text, int kind) {
        if (random.nextInt(3) > 0) {
            String wrong = due("end(0)", asLong(real.end(0)), asLong(model.end(0)));
            if (wrong != null) {
                return wrong;
            }
        }
        int before = model.tape.length();
        log.add("text: " + text);
        for (int i = 0; i < text.length(); i += 20) {
            int[] n = new int[5];
            for (int j = 0; j < 5; j++) {
                n[j] = Check.four(text, i + 4 * j);
            }
            String wrong = due("feed", real.feed(n[0], n[1], n[2], n[3], n[4]), model.feed(n));
            if (wrong != null) {
                return wrong;
            }
        }
        int cut = before + text.length();
        String wrong = due("end(" + cut + ")", asLong(real.end(cut)), asLong(model.end(cut)));
        if (wrong != null) {
            return wrong;
        }
        texts++;
        switch (kind) {
            case 0:
                wrong = due("valley", real.valley(), model.valley());
                noteNames();
                break;
            case 1: {
                int lives = random.nextInt(12) == 0 ? near(0, 1) : random.nextInt(2);
                wrong = due("book(" + lives + ")", real.book(lives), model.book(lives));
                break;
            }
            case 2:
                wrong = due("sentence", real.sentence(), model.sentence());
                break;
            case 3:
                wrong = due("stays", real.stays(), model.stays());
                break;
            default:
                wrong = due("marks", real.marks(), model.marks());
                break;
        }
        faults += kind < 3 && model.fault() != 0 ? 1 : 0;
        if (wrong == null) {
            wrong = due("fault", real.fault(), model.fault());
        }
        for (int what = 0; wrong == null && kind == 1 && what < 4; what++) {
            wrong = due("told(" + what + ")", real.told(what), model.told(what));
        }
        for (int k = -1; wrong == null && kind == 2 && k < 3; k++) {
            wrong = due("said(" + k + ")", real.said(k), model.said(k));
        }
        for (int k = 0; wrong == null && kind == 3 && k < 5; k++) {
            wrong = due("stayAt(" + k + ")", real.stayAt(k), model.stayAt(k));
        }
        return wrong;
    }

    private void noteNames() {
        houses.clear();
        rooms.clear();
        guests.clear();
        model.world.houses.forEach(h -> houses.add(h.name));
        model.world.rooms.forEach(r -> rooms.add(r.name));
        model.world.guests.forEach(g -> guests.add(g.name));
    }

    private String compareAll() {
        String wrong = null;
        for (int what = -1; wrong == null && what < 8; what++) {
            wrong = due("now(" + what + ")", real.now(what), model.now(what));
        }
        for (int what = 0; wrong == null && what < 9; what++) {
            wrong = due("count(" + what + ")", real.count(what), model.count(what));
        }
        int g = random.nextInt(7);
        int r = random.nextInt(9);
        for (int what = -1; wrong == null && what < 7; what++) {
            int w = what;
            wrong = due("guest(" + g + ", " + w + ")", orThrown(() -> real.guest(g, w)),
                    orThrown(() -> model.guest(g, w)));
            if (wrong == null) {
                wrong = due("room(" + r + ", " + w + ")", orThrown(() -> real.room(r, w)),
                        orThrown(() -> model.room(r, w)));
            }
        }
        return wrong;
    }

    private interface Call {
        int answer();
    }

    private static long orThrown(Call call) {
        try {
            return call.answer();
        } catch (NoSuchElementException e) {
            return -1000000;
        }
    }

    private String plainCall(int which) {
        int g = near(0, Math.max(0, guests.size() - 1));
        int r = near(0, Math.max(0, rooms.size() - 1));
        int n;
        switch (which) {
            case 0: case 1: case 2: case 3: case 4:
                n = near(1, 30);
                return due("take(" + g + ", " + r + ", " + n + ")", real.take(g, r, n), model.take(g, r, n));
            case 5:
                return due("leave(" + g + ")", real.leave(g), model.leave(g));
            case 6: case 7:
                n = near(0, 5);
                return due("wheel(" + n + ")", real.wheel(n), model.wheel(n));
            case 8: case 9:
                n = random.nextInt(3) == 0 ? near(1, 60) : any(1, 4);
                return due("days(" + n + ")", real.days(n), model.days(n));
            case 10: case 11:
                return due("undo()", real.undo(), model.undo());
            case 12:
                n = near(0, 60);
                return due("level(" + n + ")", real.level(n), model.level(n));
            case 13:
                n = near(1, 60);
                return due("dry(" + r + ", " + n + ")", real.dry(r, n), model.dry(r, n));
            case 14:
                return due("wets(" + r + ")", real.wets(r), model.wets(r));
            case 15:
                n = near(0, 4);
                return due("stayAt(" + n + ")", real.stayAt(n), model.stayAt(n));
            case 16: case 17: {
                n = near(1, 5);
                String wrong = due("plan(" + r + ", " + n + ")", real.plan(r, n), model.plan(r, n));
                for (int i = 0; wrong == null && i < 5; i++) {
                    wrong = due("planAt(" + i + ")", real.planAt(i), model.planAt(i));
                }
                return wrong;
            }
            case 18:
                n = near(0, 5);
                return due("planAt(" + n + ")", real.planAt(n), model.planAt(n));
            case 19: case 20: {
                String wrong = due("round()", real.round(), model.round());
                for (int i = 0; wrong == null && i < 5; i++) {
                    wrong = due("roundAt(" + i + ")", real.roundAt(i), model.roundAt(i));
                }
                return wrong;
            }
            case 21:
                n = near(0, 5);
                return due("roundAt(" + n + ")", real.roundAt(n), model.roundAt(n));
            case 22:
                return random.nextBoolean() ? due("lowest()", real.lowest(), model.lowest())
                        : due("highest()", real.highest(), model.highest());
            case 23:
                return due("bell()", real.bell(), model.bell());
            default:
                return otherCall(which, g, r);
        }
    }

    private String otherCall(int which, int g, int r) {
        int n;
        switch (which) {
            case 24:
                return due("visits(" + g + ")", real.visits(g), model.visits(g));
            case 25:
                return due("quiet(" + g + ")", real.quiet(g), model.quiet(g));
            case 26:
                return due("quarrels()", real.quarrels(), model.quarrels());
            case 27:
                n = near(1, 60);
                return due("brings(" + n + ")", real.brings(n), model.brings(n));
            case 28: {
                String wrong = due("bill(" + g + ")", real.bill(g), model.bill(g));
                for (int i = random.nextInt(8) - 1; wrong == null && i < 34; i += 5) {
                    wrong = due("byteAt(" + i + ")", real.byteAt(i), model.byteAt(i));
                }
                return wrong;
            }
            case 29: {
                n = random.nextBoolean() ? near(1, 60) : any(1, 5);
                int seed = random.nextInt();
                return due("drawn(" + n + ", " + seed + ")", real.drawn(n, seed), model.drawn(n, seed));
            }
            case 30: {
                n = near(1, 30);
                int seed = random.nextBoolean() ? random.nextInt() : Integer.MAX_VALUE - random.nextInt(20);
                return due("odds(" + r + ", " + n + ", " + seed + ")", real.odds(r, n, seed), model.odds(r, n, seed));
            }
            case 31:
                n = near(0, 1);
                return due("image(" + n + ")", asLong(real.image(n)), asLong(model.image(n)));
            case 32: {
                n = near(0, 1);
                String wrong = due("restore(" + n + ")", asLong(real.restore(n)), asLong(model.restore(n)));
                noteNames();
                return wrong;
            }
            default:
                n = near(-1, 4);
                return due("said(" + n + ")", real.said(n), model.said(n));
        }
    }

    private String name() {
        int length = random.nextInt(6) == 0 ? 7 : any(1, 3);
        StringBuilder s = new StringBuilder();
        for (int i = 0; i < length; i++) {
            s.append((char) ('a' + random.nextInt(random.nextBoolean() ? 26 : 5)));
        }
        return s.toString();
    }

    private String gap() {
        int pick = random.nextInt(12);
        return pick == 0 ? "\n" : pick == 1 ? "  " : " ";
    }

    private String one(List<String> names) {
        return names.isEmpty() || random.nextInt(200) == 0 ? name() : names.get(random.nextInt(names.size()));
    }

    private String number(int least, int most) {
        int n = random.nextInt(80) == 0 ? most + 1 : any(least, most);
        return random.nextInt(20) == 0 && n < 100 ? "0" + n : "" + n;
    }

    private String valleyText() {
        List<String> h = new ArrayList<>();
        List<String> r = new ArrayList<>();
        List<String> g = new ArrayList<>();
        List<String> lines = new ArrayList<>();
        int most = any(0, 40);
        for (int i = 0; i < most; i++) {
            int pick = random.nextInt(36);
            String s = name();
            if (pick < 6 && (h.size() < 5 || random.nextInt(30) == 0) || h.isEmpty()) {
                h.add(s);
                lines.add("house" + gap() + s + gap() + number(0, 20) + " " + number(0, 20));
            } else if (pick < 16 && (r.size() < 8 || random.nextInt(30) == 0)) {
                r.add(s);
                lines.add("room " + s + gap() + one(h) + gap() + number(0, random.nextBoolean() ? 99 : 30) + " " + number(1, 30));
            } else if (pick < 24 && (g.size() < 6 || random.nextInt(30) == 0)) {
                g.add(s);
                lines.add("guest " + s + gap() + number(0, 99) + gap() + number(0, 20));
            } else if (pick < 27 && g.size() > 1) {
                int a = random.nextInt(g.size());
                int b = random.nextInt(12) == 0 ? a : (a + 1) % g.size();
                lines.add("quarrel " + g.get(a) + " " + g.get(b));
            } else if (pick < 30 && !g.isEmpty() && !r.isEmpty()) {
                lines.add("sleeps " + one(g) + " " + one(r) + " " + number(1, 30));
            } else if (pick == 30) {
                lines.add("lake " + number(0, 99));
            } else if (pick == 31) {
                lines.add("rain " + number(1, random.nextBoolean() ? 30 : 3) + " " + number(0, 9));
            } else if (pick == 32) {
                lines.add("mill " + number(0, 99));
            } else if (pick == 33) {
                lines.add("storm " + number(0, 12));
            }
        }
        if (random.nextInt(3) > 0) {
            dropTwice(lines);
        }
        StringBuilder s = new StringBuilder();
        for (String line : lines) {
            s.append(line).append(random.nextBoolean() ? ";" : " ; ");
        }
        return s.toString();
    }

    /** A VALLEY without a FAULT (but by chance in its names, or too long), with much in it. */
    private String richValley() {
        StringBuilder s = new StringBuilder();
        int h = any(1, 5);
        int r = any(1, 8);
        int g = any(1, 6);
        s.append("lake ").append(any(0, 60)).append(";rain ").append(any(1, 8)).append(' ').append(any(0, 9));
        s.append(";mill ").append(any(0, 50)).append(";storm ").append(any(0, 12)).append(';');
        for (int i = 0; i < h; i++) {
            s.append("house h").append((char) ('a' + i)).append(' ').append(any(0, 20)).append(' ');
            s.append(any(0, 20)).append(';');
        }
        for (int i = 0; i < r; i++) {
            s.append("room r").append((char) ('a' + i)).append(" h").append((char) ('a' + random.nextInt(h)));
            s.append(' ').append(any(0, 60)).append(' ').append(any(1, 30)).append(';');
        }
        for (int i = 0; i < g; i++) {
            s.append("guest g").append((char) ('a' + i)).append(' ').append(any(0, 99)).append(' ');
            s.append(any(0, 20)).append(';');
        }
        for (int i = 0; i < g; i++) {
            for (int j = i + 1; j < g; j++) {
                if (random.nextInt(3) == 0) {
                    s.append("quarrel g").append((char) ('a' + i)).append(" g").append((char) ('a' + j)).append(';');
                }
            }
        }
        for (int i = 0; i < Math.min(g, r); i++) {
            if (random.nextBoolean()) {
                s.append("sleeps g").append((char) ('a' + i)).append(" r").append((char) ('a' + i)).append(' ');
                s.append(any(1, 30)).append(';');
            }
        }
        return s.toString();
    }

    /** Most random VALLEYS tell something twice; without these lines more of them are good. */
    private static void dropTwice(List<String> lines) {
        List<String> once = new ArrayList<>();
        List<String> kept = new ArrayList<>();
        for (String line : lines) {
            String[] w = line.trim().split("[ \n]+");
            List<String> marks = new ArrayList<>();
            switch (w[0]) {
                case "lake": case "rain": case "mill": case "storm": marks.add(w[0]); break;
                case "quarrel":
                    marks.add(w[1].compareTo(w[2]) < 0 ? w[1] + "/" + w[2] : w[2] + "/" + w[1]);
                    break;
                case "sleeps": marks.add("g " + w[1]); marks.add("r " + w[2]); break;
                default: marks.add("n " + w[1]); break;
            }
            boolean again = marks.stream().anyMatch(once::contains);
            if (!again) {
                once.addAll(marks);
                kept.add(line);
            }
        }
        lines.clear();
        lines.addAll(kept);
    }

    private String bookText() {
        StringBuilder s = new StringBuilder();
        int most = random.nextInt(8) == 0 ? any(36, 44) : any(0, 12);
        boolean brief = most > 12;
        for (int i = 0; i < most; i++) {
            int pick = brief ? any(5, 9) : random.nextInt(10);
            if (pick < 4) {
                s.append(one(guests)).append(" takes ").append(one(rooms)).append(gap()).append(number(1, 30));
            } else if (pick < 5) {
                s.append(one(guests)).append(gap()).append("leaves");
            } else if (pick < 7) {
                s.append("wheel ").append(number(0, 5));
            } else {
                s.append("day ").append(number(1, random.nextInt(4) == 0 ? 60 : 3));
            }
            s.append(";");
        }
        return s.toString();
    }

    private String cond(int within) {
        StringBuilder s = new StringBuilder(all(within));
        int more = random.nextInt(within == 0 ? 6 : 2);
        for (int i = 0; i < more; i++) {
            s.append(" or ").append(all(within));
        }
        return s.toString();
    }

    private String all(int within) {
        StringBuilder s = new StringBuilder(one(within));
        int more = random.nextInt(within == 0 ? 4 : 2);
        for (int i = 0; i < more; i++) {
            s.append(" and ").append(one(within));
        }
        return s.toString();
    }

    private String one(int within) {
        int pick = random.nextInt(within < 11 ? 11 : 7);
        switch (pick) {
            case 0: return "wet";
            case 1: return "let";
            case 2: return "in " + one(houses);
            case 3: return "has " + one(guests);
            case 4: case 5: case 6:
                return WORDS[20 + random.nextInt(4)] + gap() + "<=>".charAt(random.nextInt(3)) + number(0, 30);
            case 7: case 8: case 9: return "not " + one(within + 1);
            default: return "(" + cond(within + 1) + ")";
        }
    }

    private String stayBytes() {
        StringBuilder s = new StringBuilder();
        int most = near(1, 5) % 8;
        for (int i = 0; i < most; i++) {
            s.append((char) (random.nextInt(40) == 0 ? any(0, 255) : any(0, Math.max(0, guests.size() - 1))));
            s.append((char) (random.nextInt(4) == 0 ? any(0, 255) : any(0, 6)));
            s.append((char) (random.nextInt(40) == 0 ? any(0, 255) : random.nextInt(4) == 0 ? any(1, 30) : any(1, 5)));
        }
        return random.nextInt(20) == 0 ? s + "x" : s.toString();
    }

    private String markBytes() {
        StringBuilder s = new StringBuilder();
        int most = near(1, 8) % 10;
        int level = any(0, 60);
        for (int i = 0; i < most; i++) {
            int r = random.nextInt(40) == 0 ? any(0, 255) : any(0, Math.max(0, rooms.size() - 1));
            boolean wet = r < model.world.rooms.size() && level > model.world.rooms.get(r).foot;
            s.append((char) r);
            s.append((char) (random.nextInt(40) == 0 ? any(0, 255) : random.nextInt(20) == 0 ? any(0, 1) : wet ? 1 : 0));
        }
        return random.nextInt(20) == 0 ? s + "x" : s.toString();
    }

    private String mangled(String text) {
        if (random.nextInt(3) > 0) {
            return text.length() > 920 ? text.substring(0, 920) : text;
        }
        StringBuilder s = new StringBuilder(text);
        int at = random.nextInt(s.length() + 1);
        switch (random.nextInt(9)) {
            case 0: s.insert(at, " ".repeat(random.nextInt(500))); break;
            case 1: s.append(" ".repeat(random.nextInt(900))); break;
            case 2: s.insert(at, WORDS[random.nextInt(WORDS.length)]); break;
            case 3: s.insert(at, " " + WORDS[random.nextInt(WORDS.length)] + " "); break;
            case 4: s.insert(at, (char) random.nextInt(256)); break;
            case 5: s.insert(at, "; <=>()9a".charAt(random.nextInt(9))); break;
            case 6: s.setLength(at); break;
            case 7: s.insert(at, " " + random.nextInt(2000) + " "); break;
            default: s.insert(at, " " + name() + " "); break;
        }
        return s.length() > 930 ? s.substring(0, 930) : s.toString();
    }
}
