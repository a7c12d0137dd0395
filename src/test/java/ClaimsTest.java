/** Promises 24 (claim), 25 (line), 26 (pay), 27 (paid), 28 (count). */
public final class ClaimsTest {
    public static void main(String[] args) {
        Due d = new Due();
        notTaken(d);
        lines(d);
        notBelowZero(d);
        pays(d);
        counts(d);
        d.finish();
    }

    private static void notTaken(Due d) {
        DutyDesk x = new DutyDesk();
        x.enter(0, 1, 0);
        d.due("claim of none", x.claim(0, 0), Due.RANGE);
        d.due("line of none", x.line(0, 0, 0), Due.RANGE);
        d.due("pay of none", x.pay(0), Due.RANGE);
        d.due("pay(-1)", x.pay(-1), Due.RANGE);
        x.call(0, 0, 0, 0, -1, 0, 0);
        d.due("claim when asking", x.claim(0, 0), Due.NONE);
        d.due("claim with k 1", x.claim(0, 1), Due.RANGE);
        d.due("claim with k -1", x.claim(0, -1), Due.RANGE);
        d.due("line when asking", x.line(0, 0, 0), Due.NONE);
        d.due("line with k 1", x.line(0, 1, 0), Due.RANGE);
        d.due("line with k -1", x.line(0, -1, 0), Due.RANGE);
        d.due("pay when asking", x.pay(0), Due.STATE);
        x.answer(0, false);
        d.due("claim when open", x.claim(0, 0), Due.NONE);
        d.due("pay when open", x.pay(0), Due.STATE);
        d.due("paid(1)", x.paid(1), Due.RANGE);
        d.due("paid(-1)", x.paid(-1), Due.RANGE);
        d.due("paid(0)", x.paid(0), 0);
        x.call(0, 0, 0, 0, -1, 0, 0);
        x.answer(1, true);
        d.due("claim", x.claim(1, 0), 80);
        d.due("claim with k 1", x.claim(1, 1), Due.RANGE);
        d.due("claim of 2", x.claim(2, 0), Due.RANGE);
        d.due("claim of -1", x.claim(-1, 0), Due.RANGE);
        d.due("line 5", x.line(1, 0, 5), Due.NONE);
        d.due("line -1", x.line(1, 0, -1), Due.NONE);
        d.due("line 5 with k 1", x.line(1, 1, 5), Due.RANGE);
    }

    private static void all(Due d, DutyDesk x, int i, int k, int claim, int... lines) {
        d.due("claim(" + i + ", " + k + ")", x.claim(i, k), claim);
        for (int n = 0; n < lines.length; n++) {
            d.due("line(" + i + ", " + k + ", " + n + ")", x.line(i, k, n), lines[n]);
        }
    }

    private static void lines(Due d) {
        DutyDesk x = new DutyDesk();
        x.enter(0, 1, 0);
        x.enter(1, 1, 0);
        x.travel(0, 1, 40);
        x.duty(0, 5, 0);
        x.call(5, 0, 0, 1, -1, 0, 0);
        x.answer(0, true);
        x.call(5, 0, 0, 0, -1, 0, 1);
        x.answer(1, false);
        x.answer(1, true);
        // Known later: nothing of this changes.
        x.travel(0, 1, 600);
        x.duty(0, 5, -1);
        all(d, x, 0, 0, 240, 100, 60, 80, 0, 0);
        all(d, x, 1, 0, 120, 0, 60, 80, -20, 0);
        Due.edition(x, 5, "reach 39;night 7;call 5;minute 2;late 3;cap 169;");
        all(d, x, 0, 1, 169, 7, 5, 160, -3, 0);
        all(d, x, 0, 0, 240, 100, 60, 80, 0, 0);
        Due.edition(x, 6, "cap 0;");
        all(d, x, 0, 2, 169, 7, 5, 160, -3, 0);
        Due.edition(x, 0, "cap 1;");
        all(d, x, 0, 3, 169, 7, 5, 160, -3, 0);
        Due.edition(x, 5, "reach 40;cap 100;minute 0;ask 999;");
        all(d, x, 0, 4, 100, 100, 60, 0, 0, -60);
        all(d, x, 1, 4, 40, 0, 60, 0, -20, 0);
        all(d, x, 0, 1, 169, 7, 5, 160, -3, 0);
        Due.edition(x, 5, "minute 9999;call 9999;night 9999;cap 9999;");
        all(d, x, 0, 5, 9999, 9999, 9999, 799920, 0, -809919);
        Due.edition(x, 5, "cap 0;");
        all(d, x, 0, 6, 0, 100, 60, 80, 0, -240);
        Due.edition(x, 5, "reach 0;late 9999;cap 400;");
        all(d, x, 0, 7, 0, 100, 60, 80, -9999, 0);
    }

    private static void notBelowZero(Due d) {
        DutyDesk x = new DutyDesk();
        x.enter(0, 1, 0);
        x.call(5, 0, 0, 0, -1, 0, 0);
        x.answer(0, true);
        Due.edition(x, 0, "reach 9;late 79;");
        all(d, x, 0, 1, 1, 0, 60, 20, -79, 0);
        Due.edition(x, 0, "reach 9;late 80;");
        all(d, x, 0, 2, 0, 0, 60, 20, -80, 0);
        Due.edition(x, 0, "reach 9;late 81;");
        all(d, x, 0, 3, 0, 0, 60, 20, -81, 0);
        d.due("pay", x.pay(0), 0);
    }

    private static void pays(Due d) {
        DutyDesk x = new DutyDesk();
        x.enter(0, 1, 0);
        x.enter(0, 1, 0);
        x.call(5, 0, 0, 0, -1, 0, 0);
        x.answer(0, true);
        x.call(6, 0, 0, 0, -1, 1, 0);
        x.answer(1, true);
        x.call(6, 0, 0, 0, -1, 2, 0);
        x.answer(2, false);
        x.answer(2, true);
        d.due("pay(0)", x.pay(0), 80);
        d.due("paid(0)", x.paid(0), 80);
        d.due("pay(1)", x.pay(1), 80);
        d.due("paid(0)", x.paid(0), 160);
        d.due("paid(1)", x.paid(1), 0);
        d.due("pay(2)", x.pay(2), 80);
        d.due("paid(1)", x.paid(1), 80);
        Due.edition(x, 6, "call 0;");
        d.due("pay(0), nothing new", x.pay(0), 0);
        d.due("pay(1), less", x.pay(1), -60);
        d.due("pay(1) again", x.pay(1), 0);
        d.due("paid(0)", x.paid(0), 100);
        d.due("paid(1), not yet", x.paid(1), 80);
        Due.edition(x, 5, "call 100;");
        d.due("pay(0), more", x.pay(0), 40);
        d.due("pay(1), by its own day", x.pay(1), 0);
        d.due("paid(0)", x.paid(0), 140);
    }

    private static void counts(Due d) {
        DutyDesk x = new DutyDesk();
        x.enter(0, 3, 0);
        x.enter(0, 1, 0);
        Due.edition(x, 0, "");
        x.feed(0, 0, 0, 0, 0);
        x.duty(0, 3, 0);
        x.duty(1, 9, 0);
        x.duty(0, 5, 1);
        for (int i = 0; i < 6; i++) {
            x.call(4, 0, 0, 0, -1, i, 0);
        }
        x.answer(0, true);
        x.answer(1, false);
        x.answer(1, true);
        x.answer(2, false);
        x.answer(2, false);
        int[] want = {2, 1, 6, 3, 20, 3, 2, 1};
        for (int what = 0; what < want.length; what++) {
            d.due("count(" + what + ")", x.count(what), want[what]);
        }
        d.due("count(8)", x.count(8), Due.NONE);
        d.due("count(-1)", x.count(-1), Due.NONE);
    }
}
