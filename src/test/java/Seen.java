/** All that can be asked of an object without changing it, as a text, so that two moments can be compared. */
final class Seen {
    private Seen() {
    }

    /** All of it, the tape and the latest FAULT too. */
    static String all(DrownedRooms x) {
        return world(x) + told(x) + " fault " + x.fault() + " tape " + x.count(7);
    }

    /** VALLEY, what is so, SENTENCE. */
    static String world(DrownedRooms x) {
        StringBuilder s = new StringBuilder("now");
        for (int what = 0; what < 7; what++) {
            s.append(' ').append(x.now(what));
        }
        s.append(" count");
        for (int what = 0; what < 7; what++) {
            s.append(' ').append(x.count(what));
        }
        int rooms = x.count(1);
        int guests = x.count(2);
        for (int r = 0; r < rooms; r++) {
            s.append(" room");
            for (int what = 0; what < 6; what++) {
                s.append(' ').append(x.room(r, what));
            }
        }
        for (int g = 0; g < guests; g++) {
            s.append(" guest");
            for (int what = 0; what < 6; what++) {
                s.append(' ').append(x.guest(g, what));
            }
        }
        s.append(" said ").append(x.said(-1)).append(' ').append(x.said(0));
        return s.toString();
    }

    /** What other calls told last. */
    static String told(DrownedRooms x) {
        StringBuilder s = new StringBuilder(" stays");
        for (int i = 0; i < 5; i++) {
            s.append(' ').append(x.stayAt(i)).append('/').append(x.planAt(i)).append('/').append(x.roundAt(i));
        }
        s.append(" marks ").append(x.lowest()).append(' ').append(x.highest()).append(' ').append(x.bell());
        s.append(" bill ");
        int behind = 0;
        for (int b = x.byteAt(0); b >= 0; b = x.byteAt(behind)) {
            s.append((char) b);
            behind++;
        }
        s.append(" told");
        for (int what = 0; what < 4; what++) {
            s.append(' ').append(x.told(what));
        }
        return s.toString();
    }
}
