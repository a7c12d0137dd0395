/** What Terms II says of a text: TOKENS, lines, bounds and FAULTS. */
final class TextEdges {
    private static final String[] NUMBERED = {"reach", "ask", "rest", "most", "night", "call", "minute", "late", "cap"};
    private static final int SYNTAX = 1;
    private static final int RANGE = 2;
    private static final int TWICE = 3;

    private TextEdges() {
    }

    private static void right(Due d, String text) {
        faulty(d, text, 0, Due.NONE);
    }

    private static void faulty(Due d, String text, int kind, int place) {
        DutyDesk x = new DutyDesk();
        d.due("edition of '" + text + "'", Due.edition(x, 0, text), kind == 0 ? 0 : Due.NONE);
        d.due("kind of '" + text + "'", x.fault(0), kind);
        d.due("place of '" + text + "'", x.fault(1), place);
        d.due("editions with '" + text + "'", x.count(1), kind == 0 ? 1 : 0);
    }

    private static void tells(Due d, String text, int what, int want) {
        DutyDesk x = new DutyDesk();
        d.due("edition of '" + text + "'", Due.edition(x, 0, text), 0);
        d.due("rule " + what + " of '" + text + "'", x.rule(0, what), want);
    }

    @Holds(at = "Terms II", says = "TOKENS with any blanks (32, 10) between")
    static void anyBlanksOrNone(Due d) {
        right(d, "ask1;cap2;order near;bar town;");
        right(d, "\n \n ask \n 1 \n ; \n ");
        right(d, "ask" + "\n".repeat(500) + "1" + " ".repeat(400) + ";");
        faulty(d, "askcap 1;", SYNTAX, 0);
        faulty(d, "ordernear;", SYNTAX, 0);
        for (char blank : new char[] {9, 11, 13, 31, 33, 0, 160}) {
            faulty(d, "ask" + blank + "1;", SYNTAX, 3);
        }
    }

    @Holds(at = "Terms II", says = "WORDS (small letters, as many as there are)")
    static void wordsAreAllSmallLetters(Due d) {
        faulty(d, "asks 1;", SYNTAX, 0);
        faulty(d, "as 1;", SYNTAX, 0);
        faulty(d, "aask 1;", SYNTAX, 0);
        faulty(d, "askz 1;", SYNTAX, 0);
        faulty(d, "Ask 1;", SYNTAX, 0);
        faulty(d, "asK 1;", SYNTAX, 0);
        faulty(d, "ask`1;", SYNTAX, 3);
        faulty(d, "ask{1;", SYNTAX, 3);
        faulty(d, "order nearr;", SYNTAX, 6);
        faulty(d, "order nea;", SYNTAX, 6);
        faulty(d, "bar towns;", SYNTAX, 4);
        faulty(d, "bar tow;", SYNTAX, 4);
        faulty(d, "z".repeat(1000), SYNTAX, 0);
        // Each letter counts, the first and the last too.
        for (int n = 0; n < 5; n++) {
            faulty(d, "reach".substring(0, n) + "z" + "reach".substring(n + 1) + " 1;", SYNTAX, 0);
            faulty(d, "order calls;".substring(0, 6 + n) + "z" + "order calls;".substring(7 + n), SYNTAX, 6);
            faulty(d, "bar against;".substring(0, 4 + n) + "z" + "bar against;".substring(5 + n), SYNTAX, 4);
        }
    }

    @Holds(at = "Terms II", says = "NUMBERS (digits, as many as there are, 4 at most)")
    static void numbersHave4DigitsAtMost(Due d) {
        tells(d, "cap 0;", 8, 0);
        tells(d, "cap 9;", 8, 9);
        tells(d, "cap 1234;", 8, 1234);
        tells(d, "cap 0000;", 8, 0);
        tells(d, "cap 0012;", 8, 12);
        faulty(d, "cap 00000;", SYNTAX, 4);
        faulty(d, "cap 12345;", SYNTAX, 4);
        faulty(d, "cap 4294967297;", SYNTAX, 4);
        faulty(d, "cap " + "1".repeat(996), SYNTAX, 4);
        faulty(d, "cap 12 34;", SYNTAX, 7);
        faulty(d, "cap /1;", SYNTAX, 4);
        faulty(d, "cap :1;", SYNTAX, 4);
    }

    @Holds(at = "Terms II", says = "text = {line \";\"}")
    static void textHasNoneOrMoreLines(Due d) {
        right(d, "");
        right(d, " ");
        right(d, "ask 1;");
        right(d, "reach 1;ask 1;rest 1;most 1;night 1;call 1;minute 1;late 1;cap 1;"
            + "order near;bar fellow;bar against;bar town;");
        faulty(d, "ask 1", SYNTAX, 5);
        faulty(d, "ask 1;;", SYNTAX, 6);
        faulty(d, ";", SYNTAX, 0);
        faulty(d, ";ask 1;", SYNTAX, 0);
        faulty(d, "ask 1 cap 2;", SYNTAX, 6);
    }

    @Holds(at = "Terms II", says = "line = (\"reach\" | \"ask\" | \"rest\" | \"most\" | \"night\" | \"call\" | \"minute\" | \"late\" | "
        + "\"cap\") N | \"order\" (\"nights\" | \"calls\" | \"near\") | \"bar\" (\"fellow\" | \"against\" | \"town\").")
    static void linesOfTheseWordsAlone(Due d) {
        for (int what = 0; what < NUMBERED.length; what++) {
            tells(d, NUMBERED[what] + " 7;", what, 7);
            faulty(d, NUMBERED[what] + " near;", SYNTAX, NUMBERED[what].length() + 1);
        }
        String[] seconds = {"nights", "calls", "near", "fellow", "against", "town"};
        for (int n = 0; n < seconds.length; n++) {
            if (n < 3) {
                tells(d, "order " + seconds[n] + ";", 9, n);
                faulty(d, "bar " + seconds[n] + ";", SYNTAX, 4);
            } else {
                tells(d, "bar " + seconds[n] + ";", 10, 1 << n - 3);
                faulty(d, "order " + seconds[n] + ";", SYNTAX, 6);
            }
            faulty(d, seconds[n] + " 7;", SYNTAX, 0);
        }
    }

    @Holds(at = "Terms II", says = "N: 0 .. 9999")
    static void numbersFrom0To9999(Due d) {
        for (int what = 0; what < NUMBERED.length; what++) {
            if (what != 2 && what != 3) {
                tells(d, NUMBERED[what] + " 0;", what, 0);
                tells(d, NUMBERED[what] + " 9999;", what, 9999);
                faulty(d, NUMBERED[what] + " 10000;", SYNTAX, NUMBERED[what].length() + 1);
                faulty(d, NUMBERED[what] + " -1;", SYNTAX, NUMBERED[what].length() + 1);
            }
        }
    }

    @Holds(at = "Terms II", says = "but rest 0 .. 9")
    static void rest0To9(Due d) {
        tells(d, "rest 0;", 2, 0);
        tells(d, "rest 9;", 2, 9);
        tells(d, "rest 0009;", 2, 9);
        faulty(d, "rest 10;", RANGE, 5);
        faulty(d, "rest 9999;", RANGE, 5);
    }

    @Holds(at = "Terms II", says = "most 1 .. 30")
    static void most1To30(Due d) {
        tells(d, "most 1;", 3, 1);
        tells(d, "most 30;", 3, 30);
        faulty(d, "most 0;", RANGE, 5);
        faulty(d, "most 31;", RANGE, 5);
        faulty(d, "most 0000;", RANGE, 5);
        faulty(d, "most 9999;", RANGE, 5);
    }

    @Holds(at = "Terms II", says = "What a text doesn't tell is so: reach 45, ask 10, rest 1, most 8, night 100, call 60, "
        + "minute 1, late 20, cap 400, order nights, no bars.")
    static void whatATextDoesNotTell(Due d) {
        int[] plain = {45, 10, 1, 8, 100, 60, 1, 20, 400, 0, 0};
        String[] lines = {"reach 2", "ask 2", "rest 2", "most 2", "night 2", "call 2", "minute 2", "late 2", "cap 2",
            "order near", "bar against"};
        for (int told = 0; told < lines.length; told++) {
            DutyDesk x = new DutyDesk();
            Due.edition(x, 0, lines[told] + ";");
            Due.edition(x, 0, "");
            for (int what = 0; what < plain.length; what++) {
                d.due("rule(0, " + what + ") of '" + lines[told] + ";'", x.rule(0, what), what == told ? 2 : plain[what]);
                d.due("rule(1, " + what + ") of ''", x.rule(1, what), plain[what]);
            }
        }
    }

    @Holds(at = "Terms II", says = "FAULTS, the first come to as TOKENS are read one by one, KIND and PLACE")
    static void theFirstFaultIsTold(Due d) {
        faulty(d, "rest 10;ask;ask 1;ask 2;", RANGE, 5);
        faulty(d, "ask;rest 10;", SYNTAX, 3);
        faulty(d, "ask 1;ask 12345;", TWICE, 6);
        faulty(d, "ask 1;ask;rest 10;", TWICE, 6);
        faulty(d, "rest 1;rest 10;", TWICE, 7);
        faulty(d, "rest 10 x", RANGE, 5);
        faulty(d, "bar town;bar town x;", TWICE, 13);
        faulty(d, "ask 1;ask", TWICE, 6);
        faulty(d, "most 31", RANGE, 5);
        faulty(d, "order near;order", TWICE, 11);
    }

    @Holds(at = "Terms II", says = "PLACE (a TOKEN's first byte; the text's length at its end)")
    static void placeIsTheFirstByteOrTheLength(Due d) {
        faulty(d, "x", SYNTAX, 0);
        faulty(d, " \n x", SYNTAX, 3);
        faulty(d, "ask   12345;", SYNTAX, 6);
        faulty(d, "ask", SYNTAX, 3);
        faulty(d, "ask \n ", SYNTAX, 6);
        faulty(d, "ask 1", SYNTAX, 5);
        faulty(d, "ask 1  ", SYNTAX, 7);
        faulty(d, "order", SYNTAX, 5);
        faulty(d, "bar  ", SYNTAX, 5);
        faulty(d, "bar town", SYNTAX, 8);
        faulty(d, " ".repeat(999) + "x", SYNTAX, 999);
        faulty(d, " ".repeat(994) + "ask 12", SYNTAX, 1000);
        faulty(d, "ask" + " ".repeat(997), SYNTAX, 1000);
    }

    @Holds(at = "Terms II", says = "of one TOKEN the least KIND")
    static void theLeastKindOfOneToken(Due d) {
        // Out of bounds, too, but five digits are no NUMBER at all.
        faulty(d, "rest 10000;", SYNTAX, 5);
        faulty(d, "most 00031;", SYNTAX, 5);
        // Told already, too, but not where it may stand.
        faulty(d, "ask 1 ask 2;", SYNTAX, 6);
        faulty(d, "bar town;bar bar;", SYNTAX, 13);
        faulty(d, "bar town town;", SYNTAX, 9);
    }

    @Holds(at = "Terms II", says = "1 SYNTAX: a TOKEN (or byte that is none, a NUMBER of five digits) with which no text goes on.")
    static void syntax(Due d) {
        faulty(d, "ask 1,", SYNTAX, 5);
        faulty(d, "ask\u0000", SYNTAX, 3);
        faulty(d, "ask\u00ff", SYNTAX, 3);
        faulty(d, "12345", SYNTAX, 0);
        faulty(d, "7;", SYNTAX, 0);
        faulty(d, "nights 1;", SYNTAX, 0);
        faulty(d, "town;", SYNTAX, 0);
        faulty(d, "ask cap;", SYNTAX, 4);
        faulty(d, "ask;", SYNTAX, 3);
        faulty(d, "order 1;", SYNTAX, 6);
        faulty(d, "order;", SYNTAX, 5);
        faulty(d, "order town;", SYNTAX, 6);
        faulty(d, "order night;", SYNTAX, 6);
        faulty(d, "bar 1;", SYNTAX, 4);
        faulty(d, "bar;", SYNTAX, 3);
        faulty(d, "bar near;", SYNTAX, 4);
        faulty(d, "order near calls;", SYNTAX, 11);
        faulty(d, "bar town 1;", SYNTAX, 9);
        faulty(d, "ask 1 12345;", SYNTAX, 6);
    }

    @Holds(at = "Terms II", says = "2 RANGE: a NUMBER out of its bounds.")
    static void numberOutOfItsBounds(Due d) {
        faulty(d, "ask 10;rest 9;most 30;", 0, Due.NONE);
        faulty(d, "ask 10;rest 0010;most 30;", RANGE, 12);
        faulty(d, "ask 10;rest 9;most 31;", RANGE, 19);
        faulty(d, "ask 10;rest 9;most 0;", RANGE, 19);
    }

    @Holds(at = "Terms II", says = "3 TWICE: what was told already, at the line's first WORD (of bar: at its second).")
    static void toldTwice(Due d) {
        for (String word : NUMBERED) {
            faulty(d, word + " 1;" + word + " 1;", TWICE, word.length() + 3);
        }
        faulty(d, "order near;order near;", TWICE, 11);
        faulty(d, "order near;order calls;", TWICE, 11);
        for (String bar : new String[] {"fellow", "against", "town"}) {
            faulty(d, "bar " + bar + ";bar " + bar + ";", TWICE, bar.length() + 9);
        }
        right(d, "bar town;bar fellow;bar against;");
        // What is as it would be anyhow was told all the same.
        faulty(d, "order nights;order nights;", TWICE, 13);
        faulty(d, "ask 10;ask 10;", TWICE, 7);
        // What another text told was not told in this one.
        DutyDesk x = new DutyDesk();
        d.due("a text", Due.edition(x, 0, "ask 1;order near;bar town;"), 0);
        d.due("the same once more", Due.edition(x, 0, "ask 1;order near;bar town;"), 1);
    }
}
