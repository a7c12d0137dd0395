/** What the tests share: it compares answers, counts the wrong ones, and types texts on the tape. */
final class Due {
    static final int NONE = DutyDesk.NONE;
    static final int RANGE = DutyDesk.RANGE;
    static final int FULL = DutyDesk.FULL;
    static final int STATE = DutyDesk.STATE;

    private int wrong;
    private String name = "";

    /** What stands ahead of each wrong answer from here on. */
    void name(String test) {
        name = test;
    }

    void due(String call, long got, long want) {
        if (got != want) {
            wrong++;
            System.out.println(name + call + " answered " + got + ", due is " + want);
        }
    }

    void holds(String what, boolean is) {
        if (!is) {
            wrong++;
            System.out.println(name + "not so: " + what);
        }
    }

    void finish() {
        if (wrong != 0) {
            System.out.println(wrong + " answers are not as due");
            System.exit(1);
        }
    }

    /** The tape has this text alone. */
    static void type(DutyDesk desk, String text) {
        desk.end(0);
        for (int at = 0; at < text.length(); at += 20) {
            desk.feed(four(text, at), four(text, at + 4), four(text, at + 8), four(text, at + 12), four(text, at + 16));
        }
        desk.end(text.length());
    }

    static int edition(DutyDesk desk, int day, String text) {
        type(desk, text);
        return desk.edition(day);
    }

    private static int four(String text, int at) {
        int bytes = 0;
        for (int n = at; n < at + 4; n++) {
            bytes = bytes << 8 | (n < text.length() ? text.charAt(n) & 255 : ' ');
        }
        return bytes;
    }
}
