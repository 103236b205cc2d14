import java.util.NoSuchElementException;

/** What the tests share: a text put on the tape, and what is due compared with what was answered. */
final class Check {
    private int wrong;
    private Document part;
    private String sentence = "";

    /** What comes is about this part of the document, all of whose words must be quoted by then. */
    void reads(Document document) {
        allQuoted();
        part = document;
        sentence = "";
    }

    /** The answers behind this are due by these words of the document. */
    void says(String words) {
        sentence = "[" + words + "] ";
        if (part == null || !part.quote(words)) {
            wrong(sentence + "does not stand there in the document");
        }
    }

    private void allQuoted() {
        if (part != null && !part.unquoted().isEmpty()) {
            sentence = "";
            wrong("no test quotes the document's words: " + part.unquoted());
        }
        part = null;
    }

    private void wrong(String what) {
        wrong++;
        System.out.println(what);
    }

    void due(String call, long got, long want) {
        if (got != want) {
            wrong(sentence + call + " answered " + got + ", due is " + want);
        }
    }

    void due(String call, boolean got, boolean want) {
        due(call, got ? 1 : 0, want ? 1 : 0);
    }

    void dueText(String call, String got, String want) {
        if (!got.equals(want)) {
            wrong(sentence + call + " answered '" + got + "', due is '" + want + "'");
        }
    }

    void noSuchRoom(DrownedRooms x, int r, int what) {
        boolean thrown = false;
        try {
            x.room(r, what);
        } catch (NoSuchElementException e) {
            thrown = true;
        }
        due("room(" + r + ", " + what + ") throws", thrown, true);
    }

    void noSuchGuest(DrownedRooms x, int g, int what) {
        boolean thrown = false;
        try {
            x.guest(g, what);
        } catch (NoSuchElementException e) {
            thrown = true;
        }
        due("guest(" + g + ", " + what + ") throws", thrown, true);
    }

    /** The tape has the text alone. */
    static void put(DrownedRooms x, String text) {
        x.end(0);
        for (int i = 0; i < text.length(); i += 20) {
            x.feed(four(text, i), four(text, i + 4), four(text, i + 8), four(text, i + 12), four(text, i + 16));
        }
        x.end(text.length());
    }

    static void putBytes(DrownedRooms x, int... bytes) {
        StringBuilder text = new StringBuilder();
        for (int b : bytes) {
            text.append((char) b);
        }
        put(x, text.toString());
    }

    static int four(String text, int from) {
        int n = 0;
        for (int i = from; i < from + 4; i++) {
            n = n << 8 | (i < text.length() ? text.charAt(i) & 255 : 0);
        }
        return n;
    }

    static int valley(DrownedRooms x, String text) {
        put(x, text);
        return x.valley();
    }

    static int book(DrownedRooms x, String text, int lives) {
        put(x, text);
        return x.book(lives);
    }

    static int sentence(DrownedRooms x, String text) {
        put(x, text);
        return x.sentence();
    }

    static DrownedRooms in(String valley) {
        DrownedRooms x = new DrownedRooms();
        valley(x, valley);
        return x;
    }

    static String billOf(DrownedRooms x, int g) {
        int n = x.bill(g);
        StringBuilder text = new StringBuilder();
        for (int i = 0; i < n; i++) {
            text.append((char) x.byteAt(i));
        }
        return text.toString();
    }

    /** Ends the test, with exit code 1 if an answer was wrong. */
    void close(String name) {
        allQuoted();
        System.out.println(name + ": " + (wrong == 0 ? "all answers are as due" : wrong + " answers are not as due"));
        if (wrong != 0) {
            System.exit(1);
        }
    }
}
