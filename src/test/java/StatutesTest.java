/** Promises 9 (edition), 10 (fault), 11 (inForce), 12 (rule). */
public final class StatutesTest {
    private static final String[] NUMBERED = {"reach", "ask", "rest", "most", "night", "call", "minute", "late", "cap"};
    private static final int[] PLAIN = {45, 10, 1, 8, 100, 60, 1, 20, 400, 0, 0};

    public static void main(String[] args) {
        Due d = new Due();
        syntax(d);
        bounds(d);
        twice(d);
        tellsAll(d);
        plainOtherwise(d);
        ranges(d);
        full(d);
        inForce(d);
        cutOff(d);
        wholeTape(d);
        d.finish();
    }

    private static void faulty(Due d, String text, int kind, int place) {
        DutyDesk x = new DutyDesk();
        d.due("edition of '" + text + "'", Due.edition(x, 0, text), kind == 0 ? 0 : Due.NONE);
        d.due("fault(0) of '" + text + "'", x.fault(0), kind);
        d.due("fault(1) of '" + text + "'", x.fault(1), place);
        d.due("count(4) behind '" + text + "'", x.count(4), 0);
        d.due("count(1) behind '" + text + "'", x.count(1), kind == 0 ? 1 : 0);
    }

    private static void syntax(Due d) {
        faulty(d, "", 0, -1);
        faulty(d, " \n \n", 0, -1);
        faulty(d, "ask 1;", 0, -1);
        faulty(d, "ask1;cap2;order near;", 0, -1);
        faulty(d, "ask\n1\n;\n", 0, -1);
        faulty(d, "ordernear;", 1, 0);
        faulty(d, "ask", 1, 3);
        faulty(d, "ask   ", 1, 6);
        faulty(d, "ask 1", 1, 5);
        faulty(d, "ask 1 \n", 1, 7);
        faulty(d, "ask 12345;", 1, 4);
        faulty(d, "ask 00001;", 1, 4);
        faulty(d, "ask 123456789012345678901234567890;", 1, 4);
        faulty(d, "ask 0001;", 0, -1);
        faulty(d, "  12345", 1, 2);
        faulty(d, "12", 1, 0);
        faulty(d, "ask ;", 1, 4);
        faulty(d, "ask 1 2;", 1, 6);
        faulty(d, "ask 1cap", 1, 5);
        faulty(d, "ask 1;;", 1, 6);
        faulty(d, "ask 1; 7", 1, 7);
        faulty(d, "ask 1;asks 2;", 1, 6);
        faulty(d, "as 1;", 1, 0);
        faulty(d, "tap 1;", 1, 0);
        faulty(d, "askz 1;", 1, 0);
        faulty(d, "zask 1;", 1, 0);
        faulty(d, "ask{1;", 1, 3);
        faulty(d, "ask`1;", 1, 3);
        faulty(d, "ask/1;", 1, 3);
        faulty(d, "ask:1;", 1, 3);
        faulty(d, "Ask 1;", 1, 0);
        faulty(d, "aSk 1;", 1, 0);
        faulty(d, "ask -1;", 1, 4);
        faulty(d, "ask\t1;", 1, 3);
        faulty(d, "ask 1;\r", 1, 6);
        faulty(d, "ask 1;\u00e9", 1, 6);
        faulty(d, "ask 1;\u0000", 1, 6);
        faulty(d, "ask 1.", 1, 5);
        faulty(d, "order;", 1, 5);
        faulty(d, "order 1;", 1, 6);
        faulty(d, "order fellow;", 1, 6);
        faulty(d, "order night;", 1, 6);
        faulty(d, "order near near;", 1, 11);
        faulty(d, "order", 1, 5);
        faulty(d, "bar near;", 1, 4);
        faulty(d, "bar 1;", 1, 4);
        faulty(d, "bar;", 1, 3);
        faulty(d, "bar town", 1, 8);
        faulty(d, "nights 1;", 1, 0);
        faulty(d, "fellow;", 1, 0);
        faulty(d, ";", 1, 0);
    }

    private static void bounds(Due d) {
        faulty(d, "rest 9;", 0, -1);
        faulty(d, "rest 0;", 0, -1);
        faulty(d, "rest 10;", 2, 5);
        faulty(d, "rest 10", 2, 5);
        faulty(d, "rest 10 rest", 2, 5);
        faulty(d, "rest 10000;", 1, 5);
        faulty(d, "most 1;", 0, -1);
        faulty(d, "most 30;", 0, -1);
        faulty(d, "most 0;", 2, 5);
        faulty(d, "most 31;", 2, 5);
        faulty(d, "most 0009;", 0, -1);
        for (String word : NUMBERED) {
            if (!word.equals("rest") && !word.equals("most")) {
                faulty(d, word + " 9999;", 0, -1);
                faulty(d, word + " 0;", 0, -1);
            }
        }
    }

    private static void twice(Due d) {
        for (String word : NUMBERED) {
            faulty(d, word + " 1;" + word + " 2;", 3, word.length() + 3);
            faulty(d, word + " 1;" + word, 3, word.length() + 3);
        }
        faulty(d, "order near; order x;", 3, 12);
        faulty(d, "order near;order calls;", 3, 11);
        faulty(d, "bar town;bar fellow;bar against;", 0, -1);
        faulty(d, "bar town;bar fellow;bar town;", 3, 24);
        faulty(d, "bar town;bar 5;", 1, 13);
        faulty(d, "ask 1;cap 2;ask 3;most 99;", 3, 12);
        faulty(d, "ask 1;most 99;ask 3;", 2, 11);
    }

    private static void tellsAll(Due d) {
        DutyDesk x = new DutyDesk();
        d.due("edition", Due.edition(x, 999,
            "cap 9; late 8; minute 7; call 6; night 5; most 4; rest 3; ask 2; reach 1;\norder near;bar town;bar fellow;"), 0);
        for (int what = 0; what <= 8; what++) {
            d.due("rule(0, " + what + ")", x.rule(0, what), what + 1);
        }
        d.due("order", x.rule(0, 9), 2);
        d.due("bars", x.rule(0, 10), 5);
        d.due("first day", x.rule(0, 11), 999);
        Due.edition(x, 0, "order calls;bar against;");
        d.due("order", x.rule(1, 9), 1);
        d.due("bars", x.rule(1, 10), 2);
        d.due("first day", x.rule(1, 11), 0);
        Due.edition(x, 0, "order nights;");
        d.due("order", x.rule(2, 9), 0);
        d.due("bars", x.rule(2, 10), 0);
        d.due("what 12", x.rule(0, 12), -9);
        d.due("what -1", x.rule(0, -1), -9);
        d.due("edition 3", x.rule(3, 0), -9);
        d.due("edition -2", x.rule(-2, 0), -9);
    }

    private static void plainOtherwise(Due d) {
        DutyDesk x = new DutyDesk();
        Due.edition(x, 4, "cap 1;order near;bar town;ask 2;");
        Due.edition(x, 5, "");
        for (int what = 0; what < PLAIN.length; what++) {
            d.due("rule(-1, " + what + ")", x.rule(-1, what), PLAIN[what]);
            d.due("rule(1, " + what + ")", x.rule(1, what), PLAIN[what]);
        }
        d.due("rule(-1, 11)", x.rule(-1, 11), Due.NONE);
        d.due("rule(1, 11)", x.rule(1, 11), 5);
    }

    private static void ranges(Due d) {
        DutyDesk x = new DutyDesk();
        Due.edition(x, 0, "ask x");
        Due.type(x, "ask 1;");
        d.due("edition(1000)", x.edition(1000), Due.RANGE);
        d.due("the tape is empty", x.count(4), 0);
        d.due("the fault is an earlier one's", x.fault(0), 1);
        d.due("and its place", x.fault(1), 4);
        Due.type(x, "most 99;");
        d.due("edition(-1)", x.edition(-1), Due.RANGE);
        d.due("the tape is empty", x.count(4), 0);
        d.due("the fault is an earlier one's", x.fault(0), 1);
        d.due("an empty text", x.edition(0), 0);
        d.due("no fault", x.fault(0), 0);
        d.due("no place", x.fault(1), Due.NONE);
        d.due("fault(2)", x.fault(2), Due.NONE);
        d.due("fault(-1)", x.fault(-1), Due.NONE);
    }

    private static void full(Due d) {
        DutyDesk x = new DutyDesk();
        for (int e = 0; e < 20; e++) {
            d.due("edition", Due.edition(x, e, "ask " + e + ";"), e);
        }
        d.due("a faulty one", Due.edition(x, 0, "ask"), Due.NONE);
        d.due("its fault", x.fault(1), 3);
        d.due("a 21st", Due.edition(x, 0, "ask 77;"), Due.FULL);
        d.due("it was read", x.count(4), 0);
        d.due("without fault", x.fault(0), 0);
        d.due("count(1)", x.count(1), 20);
        d.due("no such day", x.edition(-5), Due.RANGE);
        for (int e = 0; e < 20; e++) {
            d.due("ask of " + e, x.rule(e, 1), e);
        }
    }

    private static void inForce(Due d) {
        DutyDesk x = new DutyDesk();
        Due.edition(x, 10, "");
        Due.edition(x, 5, "");
        Due.edition(x, 10, "");
        Due.edition(x, 999, "");
        Due.edition(x, 0, "");
        d.due("day 0 of 4", x.inForce(0, 4), Due.NONE);
        d.due("day 0 of 5", x.inForce(0, 5), 4);
        d.due("day 4 of 5", x.inForce(4, 5), 4);
        d.due("day 5 of 5", x.inForce(5, 5), 1);
        d.due("day 9 of 5", x.inForce(9, 5), 1);
        d.due("day 10 of 5", x.inForce(10, 5), 2);
        d.due("day 10 of 2", x.inForce(10, 2), 0);
        d.due("day 10 of 0", x.inForce(10, 0), Due.NONE);
        d.due("day 998 of 5", x.inForce(998, 5), 2);
        d.due("day 999 of 5", x.inForce(999, 5), 3);
        d.due("day 999 of 3", x.inForce(999, 3), 2);
        d.due("day 9 of 1", x.inForce(9, 1), Due.NONE);
        d.due("k 6", x.inForce(9, 6), Due.RANGE);
        d.due("k -1", x.inForce(9, -1), Due.RANGE);
        d.due("day 1000", x.inForce(1000, 0), Due.RANGE);
        d.due("day -1", x.inForce(-1, 0), Due.RANGE);
    }

    /** What lies behind the end is no part of the text, though it was fed. */
    private static void cutOff(Due d) {
        DutyDesk x = new DutyDesk();
        Due.type(x, "cap 12;askx");
        x.end(10);
        d.due("edition", x.edition(0), Due.NONE);
        d.due("a number is missing, not a word", x.fault(1), 10);
        Due.type(x, "cap 12345;");
        x.end(8);
        d.due("edition", x.edition(0), Due.NONE);
        d.due("the semicolon is missing", x.fault(1), 8);
        Due.type(x, "cap 12;  ;");
        x.end(7);
        d.due("edition", x.edition(0), 0);
        d.due("cap", x.rule(0, 8), 12);
    }

    private static void wholeTape(Due d) {
        String blanks = "                                                  ".repeat(20);
        String[] ends = {"ask 12;", "ask 12", "ask", "as", "1", " "};
        int[] places = {-1, 1000, 1000, 998, 999, -1};
        for (int n = 0; n < ends.length; n++) {
            faulty(d, blanks.substring(ends[n].length()) + ends[n], places[n] < 0 ? 0 : 1, places[n]);
        }
        faulty(d, "x".repeat(1000), 1, 0);
        faulty(d, "ask " + "1".repeat(996), 1, 4);
    }
}
