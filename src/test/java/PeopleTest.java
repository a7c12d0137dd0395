/** Promises 1 (a new object), 4 (enter), 5 (away), 7 (travel), 8 (lawyer). */
public final class PeopleTest {
    public static void main(String[] args) {
        Due d = new Due();
        newOne(d);
        enters(d);
        isAway(d);
        travels(d);
        d.finish();
    }

    private static void newOne(Due d) {
        DutyDesk x = new DutyDesk();
        for (int what = 0; what <= 7; what++) {
            d.due("count(" + what + ")", x.count(what), 0);
        }
        d.due("lawyer(0, 0)", x.lawyer(0, 0), Due.NONE);
        d.due("travel(3, 9, -1)", x.travel(3, 9, -1), Due.NONE);
        d.due("inForce(999, 0)", x.inForce(999, 0), Due.NONE);
        d.due("onDuty(0, 0)", x.onDuty(0, 0), Due.NONE);
        d.due("fault(0)", x.fault(0), 0);
        d.due("fault(1)", x.fault(1), Due.NONE);
        d.due("asked(0)", x.asked(0), Due.RANGE);
        d.due("uneven()", x.uneven(), 0);
    }

    private static void enters(Due d) {
        DutyDesk x = new DutyDesk();
        d.due("town -1", x.enter(-1, 0, 0), Due.RANGE);
        d.due("town 10", x.enter(10, 0, 0), Due.RANGE);
        d.due("panels -1", x.enter(0, -1, 0), Due.RANGE);
        d.due("panels 64", x.enter(0, 64, 0), Due.RANGE);
        d.due("tongues -1", x.enter(0, 0, -1), Due.RANGE);
        d.due("tongues 256", x.enter(0, 0, 256), Due.RANGE);
        d.due("count(0)", x.count(0), 0);
        d.due("enter(9, 63, 255)", x.enter(9, 63, 255), 0);
        d.due("enter(0, 0, 0)", x.enter(0, 0, 0), 1);
        d.due("town", x.lawyer(0, 0), 9);
        d.due("panels", x.lawyer(0, 1), 63);
        d.due("tongues", x.lawyer(0, 2), 255);
        d.due("struck", x.lawyer(0, 3), Due.NONE);
        d.due("duties", x.lawyer(0, 4), 0);
        d.due("calls", x.lawyer(0, 5), 0);
        d.due("what 6", x.lawyer(0, 6), Due.NONE);
        d.due("what -1", x.lawyer(0, -1), Due.NONE);
        d.due("lawyer 2", x.lawyer(2, 0), Due.NONE);
        d.due("lawyer -1", x.lawyer(-1, 0), Due.NONE);
        for (int l = 2; l < 24; l++) {
            d.due("enter", x.enter(l % 10, l, l), l);
        }
        d.due("a 25th", x.enter(0, 1, 1), Due.FULL);
        d.due("a 25th that can't be", x.enter(0, 64, 1), Due.RANGE);
        d.due("count(0)", x.count(0), 24);
        d.due("the last one's panels", x.lawyer(23, 1), 23);
    }

    private static void isAway(Due d) {
        DutyDesk x = new DutyDesk();
        x.enter(0, 1, 0);
        x.enter(0, 1, 0);
        d.due("away(2, 0)", x.away(2, 0, true), Due.RANGE);
        d.due("away(-1, 0)", x.away(-1, 0, true), Due.RANGE);
        d.due("away(0, -1)", x.away(0, -1, true), Due.RANGE);
        d.due("away(0, 1000)", x.away(0, 1000, true), Due.RANGE);
        d.due("not away as before", x.away(0, 999, false), 0);
        d.due("away", x.away(0, 999, true), 1);
        d.due("away again", x.away(0, 999, true), 0);
        d.due("duty when away", x.duty(0, 999, 0), Due.STATE);
        d.due("another on that day", x.duty(0, 999, 1), Due.NONE);
        d.due("it goes", x.duty(0, 999, -1), 1);
        d.due("the day ahead", x.duty(0, 998, 0), Due.NONE);
        d.due("it goes", x.duty(0, 998, -1), 0);
        d.due("back", x.away(0, 999, false), 1);
        d.due("duty when back", x.duty(0, 999, 0), Due.NONE);
        d.due("away keeps what it has", x.away(0, 999, true), 1);
        d.due("onDuty", x.onDuty(0, 999), 0);
    }

    private static void travels(Due d) {
        DutyDesk x = new DutyDesk();
        d.due("travel(0, 0, 5)", x.travel(0, 0, 5), Due.RANGE);
        d.due("travel(-1, 0, 5)", x.travel(-1, 0, 5), Due.RANGE);
        d.due("travel(0, 10, 5)", x.travel(0, 10, 5), Due.RANGE);
        d.due("travel(10, 0, 5)", x.travel(10, 0, 5), Due.RANGE);
        d.due("travel(0, -1, 5)", x.travel(0, -1, 5), Due.RANGE);
        d.due("travel(0, 1, 601)", x.travel(0, 1, 601), Due.RANGE);
        d.due("travel(0, 1, -2)", x.travel(0, 1, -2), Due.RANGE);
        d.due("travel(0, 1, 600)", x.travel(0, 1, 600), Due.NONE);
        d.due("the other way", x.travel(1, 0, 0), 600);
        d.due("no more told", x.travel(0, 1, -1), 0);
        d.due("was not told", x.travel(1, 0, 7), Due.NONE);
        d.due("it is 7", x.travel(0, 1, 7), 7);
        d.due("others are not told", x.travel(1, 2, 3), Due.NONE);
    }
}
