/** Promises 6 (strike), 13 (duty), 14 (onDuty), 15 (plan), 16 (uneven). */
public final class NightsTest {
    public static void main(String[] args) {
        Due d = new Due();
        ranges(d);
        whoMay(d);
        rests(d);
        most(d);
        textOfTheNight(d);
        plans(d);
        plansEvenly(d);
        plansAtTheEdge(d);
        strikes(d);
        strikesInRow(d);
        d.finish();
    }

    private static DutyDesk desk(int lawyers, int panels) {
        DutyDesk x = new DutyDesk();
        for (int l = 0; l < lawyers; l++) {
            x.enter(0, panels, 0);
        }
        return x;
    }

    private static void ranges(Due d) {
        DutyDesk x = desk(1, 63);
        d.due("duty panel 6", x.duty(6, 0, 0), Due.RANGE);
        d.due("duty panel -1", x.duty(-1, 0, 0), Due.RANGE);
        d.due("duty day 1000", x.duty(0, 1000, 0), Due.RANGE);
        d.due("duty day -1", x.duty(0, -1, 0), Due.RANGE);
        d.due("duty lawyer 1", x.duty(0, 0, 1), Due.RANGE);
        d.due("duty lawyer -2", x.duty(0, 0, -2), Due.RANGE);
        d.due("onDuty panel 6", x.onDuty(6, 0), Due.RANGE);
        d.due("onDuty panel -1", x.onDuty(-1, 0), Due.RANGE);
        d.due("onDuty day 1000", x.onDuty(0, 1000), Due.RANGE);
        d.due("onDuty day -1", x.onDuty(0, -1), Due.RANGE);
        d.due("plan panel 6", x.plan(6, 0, 1), Due.RANGE);
        d.due("plan panel -1", x.plan(-1, 0, 1), Due.RANGE);
        d.due("plan of 0", x.plan(0, 0, 0), Due.RANGE);
        d.due("plan of 5", x.plan(0, 0, 5), Due.RANGE);
        d.due("plan of max", x.plan(0, 999, Integer.MAX_VALUE), Due.RANGE);
        d.due("plan from -1", x.plan(0, -1, 2), Due.RANGE);
        d.due("plan behind 999", x.plan(0, 997, 4), Due.RANGE);
        d.due("plan from max", x.plan(0, Integer.MAX_VALUE, 4), Due.RANGE);
        d.due("no duties from that", x.count(3), 0);
        d.due("strike lawyer 1", x.strike(1, 0), Due.RANGE);
        d.due("strike lawyer -1", x.strike(-1, 0), Due.RANGE);
        d.due("strike day 1000", x.strike(0, 1000), Due.RANGE);
        d.due("strike day -1", x.strike(0, -1), Due.RANGE);
        d.due("struck", x.lawyer(0, 3), Due.NONE);
    }

    private static void whoMay(Due d) {
        DutyDesk x = new DutyDesk();
        x.enter(0, 1, 0);
        x.enter(0, 32, 0);
        x.enter(0, 33, 0);
        d.due("not on the panel", x.duty(5, 0, 0), Due.STATE);
        d.due("on the panel", x.duty(5, 0, 1), Due.NONE);
        d.due("it had it", x.duty(5, 0, 2), 1);
        d.due("another panel on that day", x.duty(0, 0, 2), Due.STATE);
        d.due("the same again", x.duty(5, 0, 2), 2);
        d.due("one that may not", x.duty(5, 0, 0), Due.STATE);
        d.due("who had it has it", x.onDuty(5, 0), 2);
        d.due("duties of 1", x.lawyer(1, 4), 0);
        d.due("duties of 2", x.lawyer(2, 4), 1);
        d.due("none", x.duty(5, 0, -1), 2);
        d.due("none again", x.duty(5, 0, -1), Due.NONE);
        d.due("onDuty", x.onDuty(5, 0), Due.NONE);
        d.due("now the other panel", x.duty(0, 0, 2), Due.NONE);
        x.strike(0, 7);
        d.due("struck", x.duty(0, 7, 0), Due.STATE);
        d.due("struck behind it", x.duty(0, 999, 0), Due.STATE);
        d.due("not yet struck", x.duty(0, 6, 0), Due.NONE);
    }

    private static void rests(Due d) {
        DutyDesk x = desk(2, 3);
        d.due("day 10", x.duty(0, 10, 0), Due.NONE);
        d.due("day 9", x.duty(0, 9, 0), Due.STATE);
        d.due("day 11 of the other panel", x.duty(1, 11, 0), Due.STATE);
        d.due("day 12", x.duty(1, 12, 0), Due.NONE);
        d.due("day 8", x.duty(1, 8, 0), Due.NONE);
        Due.edition(x, 0, "rest 9;");
        d.due("day 22, rest 9", x.duty(1, 22, 0), Due.NONE);
        d.due("day 31, rest 9", x.duty(1, 31, 0), Due.STATE);
        d.due("day 0, rest 9", x.duty(1, 0, 0), Due.STATE);
        d.due("day 0 of 1, rest 9", x.duty(1, 0, 1), Due.NONE);
        d.due("day 999 of 1, rest 9", x.duty(1, 999, 1), Due.NONE);
        d.due("day 12 again, rest 9", x.duty(1, 12, 0), Due.STATE);
        Due.edition(x, 0, "rest 0;");
        d.due("day 11, rest 0", x.duty(1, 11, 0), Due.NONE);
        d.due("day 11 on the other panel, rest 0", x.duty(0, 11, 0), Due.STATE);
    }

    private static void most(Due d) {
        DutyDesk x = desk(1, 3);
        Due.edition(x, 0, "rest 0;most 2;");
        d.due("day 50", x.duty(0, 50, 0), Due.NONE);
        d.due("day 79", x.duty(1, 79, 0), Due.NONE);
        d.due("day 60 between", x.duty(0, 60, 0), Due.STATE);
        d.due("day 49: 49 .. 78 has two", x.duty(0, 49, 0), Due.NONE);
        d.due("day 78: 49 .. 78 has three", x.duty(0, 78, 0), Due.STATE);
        d.due("day 80: 51 .. 80 has two", x.duty(0, 80, 0), Due.NONE);
        d.due("day 81: 52 .. 81 has three", x.duty(0, 81, 0), Due.STATE);
        d.due("day 20: 20 .. 49 has two", x.duty(0, 20, 0), Due.NONE);
        d.due("day 21: 21 .. 50 has three", x.duty(0, 21, 0), Due.STATE);
        d.due("uneven", x.uneven(), 25);
        DutyDesk y = desk(1, 1);
        Due.edition(y, 0, "rest 0;most 2;");
        d.due("day 30", y.duty(0, 30, 0), Due.NONE);
        d.due("day 59", y.duty(0, 59, 0), Due.NONE);
        d.due("day 58: 30 .. 59 alone has three", y.duty(0, 58, 0), Due.STATE);
        d.due("day 30 goes", y.duty(0, 30, -1), 0);
        d.due("day 58", y.duty(0, 58, 0), Due.NONE);
        d.due("day 30: 30 .. 59 alone has three", y.duty(0, 30, 0), Due.STATE);
        d.due("day 29: 29 .. 58 has two", y.duty(0, 29, 0), Due.NONE);
    }

    private static void textOfTheNight(Due d) {
        DutyDesk x = desk(1, 1);
        Due.edition(x, 0, "rest 0;");
        Due.edition(x, 20, "rest 3;most 2;");
        d.due("day 18", x.duty(0, 18, 0), Due.NONE);
        d.due("day 19", x.duty(0, 19, 0), Due.NONE);
        d.due("day 20 by the later text", x.duty(0, 20, 0), Due.STATE);
        d.due("day 23 has more than two", x.duty(0, 23, 0), Due.STATE);
        d.due("day 48: 19 .. 48 has two", x.duty(0, 48, 0), Due.NONE);
        d.due("day 17 by the earlier text", x.duty(0, 17, 0), Due.NONE);
        // 17, 18, 19 are more than two, but no 30 days with the night in them have all of these.
        d.due("day 49", x.duty(0, 49, 0), Due.STATE);
        d.due("day 52: 23 .. 52 has two", x.duty(0, 52, 0), Due.NONE);
        Due.edition(x, 0, "most 1;");
        d.due("day 16 as known now", x.duty(0, 16, 0), Due.STATE);
    }

    private static void row(Due d, DutyDesk x, int p, int day, int... want) {
        for (int j = 0; j < want.length; j++) {
            d.due("onDuty(" + p + ", " + (day + j) + ")", x.onDuty(p, day + j), want[j]);
        }
    }

    private static void plans(Due d) {
        DutyDesk x = desk(2, 3);
        d.due("two by turns", x.plan(0, 0, 4), 0);
        row(d, x, 0, 0, 0, 1, 0, 1);
        d.due("the other panel has none left", x.plan(1, 0, 4), 4);
        d.due("what these nights had is gone", x.plan(0, 0, 4), 0);
        row(d, x, 0, 0, 0, 1, 0, 1);
        d.due("count(3)", x.count(3), 4);
        x.away(1, 1, true);
        x.away(0, 2, true);
        d.due("with two away", x.plan(0, 0, 4), 0);
        row(d, x, 0, 0, 1, 0, 1, 0);
    }

    private static void plansEvenly(Due d) {
        DutyDesk x = desk(3, 3);
        Due.edition(x, 0, "rest 0;");
        x.duty(1, 100, 0);
        x.duty(1, 101, 0);
        x.duty(1, 102, 1);
        d.due("plan", x.plan(0, 0, 3), 0);
        row(d, x, 0, 0, 1, 2, 2);
        d.due("uneven", x.uneven(), 12);
        d.due("no lawyers on it", x.plan(4, 0, 4), 4);
        DutyDesk y = desk(24, 1);
        d.due("many", y.plan(0, 0, 4), 0);
        row(d, y, 0, 0, 0, 1, 2, 3);
        d.due("many again", y.plan(0, 4, 4), 0);
        row(d, y, 0, 4, 4, 5, 6, 7);
        d.due("uneven", y.uneven(), 8);
        // The last one stands behind: an even choice takes it though its number is the greatest.
        for (int l = 8; l < 23; l++) {
            d.due("duty", y.duty(0, 10 + l, l), Due.NONE);
        }
        d.due("two nights", y.plan(0, 50, 2), 0);
        row(d, y, 0, 50, 0, 23);
    }

    private static void plansAtTheEdge(Due d) {
        DutyDesk x = desk(1, 1);
        d.due("from 996", x.plan(0, 996, 4), 2);
        row(d, x, 0, 996, 0, -1, 0, -1);
        d.due("from 999", x.plan(0, 999, 1), 1);
        d.due("the ones ahead stay", x.onDuty(0, 998), 0);
        d.due("from 0", x.plan(0, 0, 1), 0);
        // A duty behind the row holds as well as one ahead.
        d.due("duty", x.duty(0, 14, 0), Due.NONE);
        d.due("from 10", x.plan(0, 10, 4), 2);
        row(d, x, 0, 10, 0, -1, 0, -1);
        DutyDesk y = desk(1, 1);
        Due.edition(y, 0, "rest 0;most 2;");
        d.due("most in the row", y.plan(0, 0, 4), 2);
        row(d, y, 0, 0, 0, 0, -1, -1);
        DutyDesk z = desk(1, 1);
        Due.edition(z, 0, "rest 0;");
        Due.edition(z, 2, "rest 2;");
        d.due("each by its own text", z.plan(0, 0, 4), 2);
        row(d, z, 0, 0, 0, 0, -1, -1);
    }

    private static void strikes(Due d) {
        DutyDesk x = desk(3, 3);
        x.duty(0, 10, 0);
        x.duty(1, 12, 0);
        x.duty(0, 14, 0);
        x.duty(0, 20, 1);
        d.due("strike(0, 12)", x.strike(0, 12), 2);
        // 12 goes to 2, with none; 14 to 1, as 1 and 2 have as many then.
        d.due("onDuty(0, 10)", x.onDuty(0, 10), 0);
        d.due("onDuty(1, 12)", x.onDuty(1, 12), 2);
        d.due("onDuty(0, 14)", x.onDuty(0, 14), 1);
        d.due("from when", x.lawyer(0, 3), 12);
        d.due("duties left", x.lawyer(0, 4), 1);
        d.due("the same day", x.strike(0, 12), Due.RANGE);
        d.due("a later day", x.strike(0, 13), Due.RANGE);
        d.due("from when, still", x.lawyer(0, 3), 12);
        d.due("an earlier day", x.strike(0, 11), 0);
        d.due("a yet earlier day", x.strike(0, 0), 1);
        d.due("from when", x.lawyer(0, 3), 0);
        d.due("duties left", x.lawyer(0, 4), 0);
        d.due("onDuty(0, 10)", x.onDuty(0, 10), 2);
    }

    private static void strikesInRow(Due d) {
        DutyDesk x = desk(2, 1);
        Due.edition(x, 0, "rest 0;");
        x.duty(0, 5, 0);
        x.duty(0, 6, 0);
        x.duty(0, 999, 0);
        Due.edition(x, 0, "rest 1;");
        d.due("strike(0, 0)", x.strike(0, 0), 3);
        d.due("the first goes over", x.onDuty(0, 5), 1);
        d.due("the next to none, as 1 rests", x.onDuty(0, 6), Due.NONE);
        d.due("the last day", x.onDuty(0, 999), 1);
        d.due("count(3)", x.count(3), 2);
        d.due("one without", x.strike(1, 999), 1);
        d.due("to none", x.onDuty(0, 999), Due.NONE);
        d.due("uneven", x.uneven(), 1);
    }
}
