/** Promises 17 (against), 18 (waive), 19 (call), 20 (asked), 21 (answer), 22 (told), 23 (barred). */
public final class CallsTest {
    public static void main(String[] args) {
        Due d = new Due();
        ranges(d);
        comes(d);
        fills(d);
        reasons(d);
        fellows(d);
        againstAndTown(d);
        orders(d);
        formerTakerFirst(d);
        asThingsAreThen(d);
        minutes(d);
        openAndTold(d);
        d.finish();
    }

    private static void ranges(Due d) {
        DutyDesk x = new DutyDesk();
        x.enter(0, 1, 0);
        d.due("against(1, 0)", x.against(1, 0), Due.RANGE);
        d.due("against(-1, 0)", x.against(-1, 0), Due.RANGE);
        d.due("against(0, 100)", x.against(0, 100), Due.RANGE);
        d.due("against(0, -1)", x.against(0, -1), Due.RANGE);
        d.due("against(0, 99)", x.against(0, 99), 1);
        d.due("against(0, 99) again", x.against(0, 99), 0);
        d.due("waive(100, 0)", x.waive(100, 0), Due.RANGE);
        d.due("waive(-1, 0)", x.waive(-1, 0), Due.RANGE);
        d.due("waive(0, 10)", x.waive(0, 10), Due.RANGE);
        d.due("waive(0, -1)", x.waive(0, -1), Due.RANGE);
        d.due("waive(99, 9)", x.waive(99, 9), 1);
        d.due("waive(99, 9) again", x.waive(99, 9), 0);
        d.due("waive(99, 8)", x.waive(99, 8), 1);
        d.due("asked(0)", x.asked(0), Due.RANGE);
        d.due("answer(0)", x.answer(0, true), Due.RANGE);
        d.due("answer(-1)", x.answer(-1, false), Due.RANGE);
        d.due("told(0, 0)", x.told(0, 0), -9);
        d.due("barred(0, 0)", x.barred(0, 0), Due.RANGE);
        x.call(0, 0, 0, 0, -1, 0, 0);
        d.due("barred(0, 1)", x.barred(0, 1), Due.RANGE);
        d.due("barred(0, -1)", x.barred(0, -1), Due.RANGE);
        d.due("barred(-1, 0)", x.barred(-1, 0), Due.RANGE);
        d.due("told(0, 6)", x.told(0, 6), -9);
        d.due("told(0, -1)", x.told(0, -1), -9);
        d.due("told(-1, 0)", x.told(-1, 0), -9);
        d.due("asked(-1)", x.asked(-1), Due.RANGE);
        d.due("asked(1)", x.asked(1), Due.RANGE);
    }

    private static void comes(Due d) {
        DutyDesk x = new DutyDesk();
        d.due("day -1", x.call(-1, 0, 0, 0, 0, 0, 0), Due.RANGE);
        d.due("day 1000", x.call(1000, 0, 0, 0, 0, 0, 0), Due.RANGE);
        d.due("minute -1", x.call(0, -1, 0, 0, 0, 0, 0), Due.RANGE);
        d.due("minute 1440", x.call(0, 1440, 0, 0, 0, 0, 0), Due.RANGE);
        d.due("panel -1", x.call(0, 0, -1, 0, 0, 0, 0), Due.RANGE);
        d.due("panel 6", x.call(0, 0, 6, 0, 0, 0, 0), Due.RANGE);
        d.due("town -1", x.call(0, 0, 0, -1, 0, 0, 0), Due.RANGE);
        d.due("town 10", x.call(0, 0, 0, 10, 0, 0, 0), Due.RANGE);
        d.due("tongue -2", x.call(0, 0, 0, 0, -2, 0, 0), Due.RANGE);
        d.due("tongue 8", x.call(0, 0, 0, 0, 8, 0, 0), Due.RANGE);
        d.due("case -1", x.call(0, 0, 0, 0, 0, -1, 0), Due.RANGE);
        d.due("case 100", x.call(0, 0, 0, 0, 0, 100, 0), Due.RANGE);
        d.due("accused -1", x.call(0, 0, 0, 0, 0, 0, -1), Due.RANGE);
        d.due("accused 10", x.call(0, 0, 0, 0, 0, 0, 10), Due.RANGE);
        d.due("count(2)", x.count(2), 0);
        d.due("the first", x.call(5, 1439, 5, 9, 7, 99, 9), 0);
        d.due("the same day, an earlier minute", x.call(5, 0, 0, 0, -1, 0, 0), 1);
        d.due("a day ahead of it", x.call(4, 0, 0, 0, -1, 0, 0), Due.RANGE);
        d.due("a later day", x.call(999, 0, 0, 0, 0, 0, 0), 2);
        d.due("a day ahead of that", x.call(998, 0, 0, 0, 0, 0, 0), Due.RANGE);
        d.due("count(2)", x.count(2), 3);
        d.due("open without lawyers", x.told(0, 0), 2);
    }

    private static void fills(Due d) {
        DutyDesk x = new DutyDesk();
        for (int i = 0; i < 150; i++) {
            d.due("call", x.call(3, 0, 0, 0, 0, 0, 0), i);
        }
        d.due("a 151st", x.call(3, 0, 0, 0, 0, 0, 0), Due.FULL);
        d.due("one that can't be", x.call(2, 0, 0, 0, 0, 0, 0), Due.RANGE);
        d.due("count(2)", x.count(2), 150);
    }

    private static void reasons(Due d) {
        DutyDesk x = new DutyDesk();
        x.enter(3, 2, 4);
        x.enter(4, 2, 8);
        x.travel(3, 4, 10);
        d.due("call", x.call(50, 0, 1, 3, 2, 1, 1), 0);
        d.due("it may", x.barred(0, 0), 0);
        d.due("the tongue", x.barred(0, 1), 4);
        x.travel(4, 3, -1);
        d.due("and no travel", x.barred(0, 1), 12);
        x.away(1, 50, true);
        d.due("and away", x.barred(0, 1), 14);
        x.away(1, 50, false);
        x.strike(1, 51);
        d.due("not yet struck", x.barred(0, 1), 12);
        x.strike(1, 50);
        d.due("struck", x.barred(0, 1), 14);
        x.away(0, 49, true);
        x.away(0, 51, true);
        d.due("away on other days", x.barred(0, 0), 0);
        d.due("another panel, any tongue", x.call(50, 0, 0, 3, -1, 1, 1), 1);
        d.due("the panel", x.barred(1, 0), 1);
        d.due("the panel, struck, no travel", x.barred(1, 1), 11);
        d.due("nobody", x.told(1, 0), 2);
    }

    private static DutyDesk takenOnce() {
        DutyDesk x = new DutyDesk();
        x.enter(0, 1, 0);
        x.enter(0, 1, 0);
        Due.edition(x, 10, "bar fellow;");
        x.call(10, 0, 0, 0, -1, 7, 0);
        x.answer(0, true);
        return x;
    }

    private static void fellows(Due d) {
        DutyDesk x = takenOnce();
        x.call(10, 0, 0, 0, -1, 7, 1);
        d.due("a fellow's", x.barred(1, 0), 16);
        d.due("another is asked", x.asked(1), 1);
        x.call(10, 0, 0, 0, -1, 7, 0);
        d.due("its own", x.barred(2, 0), 0);
        x.call(10, 0, 0, 0, -1, 8, 1);
        d.due("another case", x.barred(3, 0), 0);
        d.due("one that has only been asked", x.barred(2, 1), 0);
        x.answer(1, true);
        d.due("a fellow's that came later", x.barred(0, 1), 16);
        d.due("waive another", x.waive(7, 2), 1);
        d.due("no matter", x.barred(1, 0), 16);
        d.due("waive in another case", x.waive(6, 0), 1);
        d.due("no matter", x.barred(1, 0), 16);
        d.due("waive the fellow", x.waive(7, 0), 1);
        d.due("both ways", x.barred(1, 0), 0);
        d.due("both ways", x.barred(0, 1), 0);

        DutyDesk y = takenOnce();
        y.call(10, 0, 0, 0, -1, 7, 1);
        y.waive(7, 1);
        d.due("waived for its own accused", y.barred(1, 0), 0);
        y.call(10, 0, 0, 0, -1, 7, 2);
        d.due("not for a third", y.barred(2, 0), 16);

        DutyDesk z = takenOnce();
        z.call(10, 0, 0, 0, -1, 7, 1);
        Due.edition(z, 10, "");
        d.due("no bar as known now", z.barred(1, 0), 0);
        Due.edition(z, 11, "bar fellow;");
        d.due("nor by a text of later", z.barred(1, 0), 0);
    }

    private static void againstAndTown(Due d) {
        DutyDesk x = new DutyDesk();
        x.enter(0, 1, 0);
        x.enter(1, 1, 0);
        x.travel(0, 1, 20);
        x.against(1, 4);
        x.call(0, 0, 0, 0, -1, 4, 0);
        d.due("no bars told", x.barred(0, 1), 0);
        Due.edition(x, 0, "bar against;bar town;");
        d.due("against", x.barred(0, 1), 32);
        d.due("town", x.barred(0, 0), 64);
        x.call(0, 0, 0, 1, -1, 4, 0);
        d.due("both", x.barred(1, 1), 96);
        d.due("none", x.barred(1, 0), 0);
        x.call(0, 0, 0, 0, -1, 5, 0);
        d.due("another case", x.barred(2, 1), 0);
        d.due("asked", x.asked(2), 1);
    }

    private static void asks(Due d, DutyDesk x, int i, int... want) {
        d.due("asked(" + i + ")", x.asked(i), want[0]);
        for (int n = 1; n < want.length; n++) {
            d.due("answer(" + i + "), " + n, x.answer(i, false), want[n]);
        }
        d.due("answer(" + i + "), last", x.answer(i, false), Due.NONE);
        d.due("told(" + i + ", 0)", x.told(i, 0), 2);
        d.due("told(" + i + ", 1)", x.told(i, 1), want.length);
    }

    private static void orders(Due d) {
        DutyDesk x = new DutyDesk();
        for (int l = 0; l < 4; l++) {
            x.enter(l, 3, 0);
        }
        x.travel(0, 1, 30);
        x.travel(0, 2, 5);
        x.travel(0, 3, 30);
        x.duty(0, 1, 0);
        x.duty(0, 3, 0);
        x.duty(1, 5, 1);
        x.duty(0, 6, 2);
        x.duty(1, 8, 2);
        x.duty(0, 10, 2);
        // Up to day 5: 0 has two, 1 has one (on that day), 2 and 3 have none.
        x.call(5, 0, 0, 0, -1, 0, 0);
        asks(d, x, 0, 2, 3, 1, 0);
        // Of day 6: 2 has DUTY.
        x.call(6, 0, 0, 0, -1, 0, 1);
        asks(d, x, 1, 2, 3, 1, 0);
        x.call(6, 0, 1, 0, -1, 0, 1);
        asks(d, x, 2, 3, 1, 2, 0);
        Due.edition(x, 6, "order near;");
        x.call(7, 0, 0, 0, -1, 0, 2);
        asks(d, x, 3, 2, 0, 1, 3);
        x.call(7, 0, 0, 0, -1, 1, 2);
        x.answer(4, true);
        x.call(7, 0, 0, 0, -1, 2, 2);
        x.answer(5, false);
        x.answer(5, true);
        Due.edition(x, 6, "order calls;");
        x.call(7, 0, 0, 0, -1, 3, 2);
        asks(d, x, 6, 1, 3, 0, 2);
        d.due("calls of 2", x.lawyer(2, 5), 1);
        d.due("calls of 0", x.lawyer(0, 5), 1);
        d.due("calls of 1", x.lawyer(1, 5), 0);
        DutyDesk y = new DutyDesk();
        y.enter(0, 3, 0);
        y.enter(0, 3, 0);
        y.duty(1, 0, 0);
        y.call(0, 0, 0, 0, -1, 0, 0);
        asks(d, y, 0, 1, 0);
    }

    private static void formerTakerFirst(Due d) {
        DutyDesk x = new DutyDesk();
        for (int l = 0; l < 4; l++) {
            x.enter(0, 1, 0);
        }
        x.duty(0, 5, 2);
        x.call(4, 0, 0, 0, -1, 9, 3);
        x.answer(0, false);
        x.answer(0, false);
        x.answer(0, false);
        d.due("3 takes the first", x.answer(0, true), Due.NONE);
        x.call(4, 0, 0, 0, -1, 9, 4);
        d.due("another accused's", x.asked(1), 0);
        x.call(5, 0, 0, 0, -1, 9, 3);
        asks(d, x, 2, 3, 2, 0, 1);
        x.call(5, 0, 0, 0, -1, 9, 3);
        x.answer(3, false);
        x.answer(3, false);
        d.due("0 takes the next", x.answer(3, true), Due.NONE);
        x.call(5, 0, 0, 0, -1, 9, 3);
        // The latest such is 0; 3, with an earlier one, has its place by order.
        asks(d, x, 4, 0, 2, 1, 3);
        x.away(0, 5, true);
        x.call(5, 0, 0, 0, -1, 9, 3);
        asks(d, x, 5, 2, 1, 3);
        // A CALL that came later is none that is earlier, though it was taken.
        DutyDesk y = new DutyDesk();
        y.enter(0, 1, 0);
        y.enter(0, 1, 0);
        y.enter(0, 1, 0);
        y.call(0, 0, 0, 0, -1, 9, 3);
        y.call(0, 0, 0, 0, -1, 9, 3);
        y.answer(1, false);
        y.answer(1, false);
        y.answer(1, true);
        asks(d, y, 0, 0, 1, 2);
    }

    private static void asThingsAreThen(Due d) {
        DutyDesk x = new DutyDesk();
        for (int l = 0; l < 4; l++) {
            x.enter(0, 1, 0);
        }
        x.call(5, 0, 0, 0, -1, 0, 0);
        x.away(0, 5, true);
        d.due("who is asked stays so", x.asked(0), 0);
        x.away(1, 5, true);
        d.due("1 may not now", x.answer(0, false), 2);
        x.away(1, 5, false);
        x.away(0, 5, false);
        x.duty(0, 5, 3);
        d.due("3 has DUTY now", x.answer(0, false), 3);
        d.due("1 may again, 0 was asked", x.answer(0, false), 1);
        d.due("a new one", x.enter(0, 1, 0), 4);
        d.due("is asked too", x.answer(0, false), 4);
        x.strike(4, 0);
        d.due("who is asked takes it", x.answer(0, true), Due.NONE);
        d.due("it took it", x.told(0, 2), 4);
        d.due("no more to answer", x.answer(0, true), Due.STATE);
        d.due("no more to refuse", x.answer(0, false), Due.STATE);
        d.due("asked", x.asked(0), Due.NONE);
    }

    private static void minutes(Due d) {
        DutyDesk x = new DutyDesk();
        x.enter(0, 1, 0);
        x.enter(1, 1, 0);
        x.travel(0, 1, 26);
        x.call(5, 0, 0, 0, -1, 0, 0);
        d.due("0 refuses", x.answer(0, false), 1);
        x.travel(0, 1, 35);
        Due.edition(x, 5, "ask 11;");
        x.duty(0, 5, 1);
        x.answer(0, true);
        d.due("11 and 35", x.told(0, 3), 46);
        d.due("46 is more than 45", x.told(0, 4), 1);
        d.due("DUTY then", x.told(0, 5), 1);
        Due.edition(x, 5, "reach 46;ask 99;");
        x.travel(0, 1, 99);
        x.duty(0, 5, -1);
        d.due("minutes stay", x.told(0, 3), 46);
        d.due("46 is not more than 46", x.told(0, 4), 0);
        d.due("it was DUTY", x.told(0, 5), 1);
        Due.edition(x, 6, "reach 0;");
        d.due("not of that day", x.told(0, 4), 0);

        x.call(5, 0, 0, 0, -1, 0, 1);
        x.answer(1, false);
        x.travel(0, 1, -1);
        x.duty(0, 5, 0);
        x.answer(1, true);
        d.due("travel is told no more", x.told(1, 3), 99);
        d.due("DUTY of another", x.told(1, 5), 0);
        x.call(5, 0, 0, 0, -1, 0, 2);
        x.answer(2, true);
        d.due("within a town", x.told(2, 3), 10);
        d.due("DUTY", x.told(2, 5), 1);
    }

    private static void openAndTold(Due d) {
        DutyDesk x = new DutyDesk();
        x.enter(0, 1, 0);
        x.call(5, 0, 0, 0, -1, 0, 0);
        d.due("state", x.told(0, 0), 0);
        d.due("refused", x.told(0, 1), 0);
        for (int what = 2; what <= 5; what++) {
            d.due("asking, what " + what, x.told(0, what), Due.NONE);
        }
        d.due("refuses", x.answer(0, false), Due.NONE);
        d.due("state", x.told(0, 0), 2);
        d.due("refused", x.told(0, 1), 1);
        for (int what = 2; what <= 5; what++) {
            d.due("open, what " + what, x.told(0, what), Due.NONE);
        }
        d.due("asked", x.asked(0), Due.NONE);
        d.due("answer", x.answer(0, true), Due.STATE);
        x.enter(0, 1, 0);
        d.due("it stays open", x.told(0, 0), 2);
        d.due("calls of 0", x.lawyer(0, 5), 0);
    }
}
