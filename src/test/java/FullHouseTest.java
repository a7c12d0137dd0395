/** As many of each as there may be, and the last of all numbers: nothing may go over an edge. */
public final class FullHouseTest {
    public static void main(String[] args) {
        Due d = new Due();
        DutyDesk x = new DutyDesk();
        for (int l = 0; l < 24; l++) {
            d.due("enter", x.enter(9, 63, 255), l);
        }
        for (int e = 0; e < 20; e++) {
            d.due("edition", Due.edition(x, 999 - e % 2, "rest 9;most 30;bar fellow;bar against;cap 9999;"), e);
        }
        d.due("inForce(999, 20)", x.inForce(999, 20), 18);
        for (int p = 0; p < 6; p++) {
            d.due("plan", x.plan(p, 996, 4), 0);
            for (int j = 0; j < 4; j++) {
                d.due("onDuty", x.onDuty(p, 996 + j), p * 4 + j);
            }
        }
        d.due("count(3)", x.count(3), 24);
        d.due("uneven", x.uneven(), 24);
        calls(d, x);
        strikes(d, x);
        d.finish();
    }

    private static void calls(Due d, DutyDesk x) {
        for (int i = 0; i < 150; i++) {
            d.due("call", x.call(999, 1439, 5, 9, 7, 99, 9), i);
        }
        // 23 has DUTY; the others have one each.
        d.due("asked", x.asked(149), 23);
        for (int l = 0; l < 23; l++) {
            d.due("answer", x.answer(149, false), l);
        }
        d.due("refused", x.told(149, 1), 23);
        d.due("the last takes it", x.answer(149, true), Due.NONE);
        d.due("who", x.told(149, 2), 22);
        d.due("minutes", x.told(149, 3), 240);
        d.due("late", x.told(149, 4), 1);
        d.due("claim", x.claim(149, 20), 60);
        d.due("pay", x.pay(149), 60);
        d.due("paid", x.paid(22), 60);
        d.due("against", x.against(23, 99), 1);
        d.due("barred", x.barred(149, 23), 32);
        d.due("count(5)", x.count(5), 149);
    }

    private static void strikes(Due d, DutyDesk x) {
        // All others rest: with nine days none of them may.
        d.due("strike", x.strike(23, 999), 1);
        d.due("to none", x.onDuty(5, 999), Due.NONE);
        d.due("strike", x.strike(23, 0), 0);
        for (int l = 0; l < 23; l++) {
            x.strike(l, 0);
            d.due("duties of one that is struck", x.lawyer(l, 4), 0);
        }
        d.due("count(3)", x.count(3), 0);
        d.due("plan", x.plan(5, 999, 1), 1);
    }
}
