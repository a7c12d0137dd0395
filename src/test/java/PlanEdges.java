/** The PLAN of Terms III, and promise 15 (plan). */
final class PlanEdges {
    private PlanEdges() {
    }

    private static void row(Due d, DutyDesk x, int p, int day, int... want) {
        for (int j = 0; j < want.length; j++) {
            d.due("onDuty(" + p + ", " + (day + j) + ")", x.onDuty(p, day + j), want[j]);
        }
    }

    @Holds(at = "Terms III", says = "PLAN of n nights (1 .. 4) of a PANEL from a day on, one behind the other")
    static void oneToFourNights(Due d) {
        for (int n = 1; n <= 4; n++) {
            DutyDesk x = Desks.of(24, 63);
            d.due("plan of " + n, x.plan(5, 10, n), 0);
            row(d, x, 5, 9, Due.NONE, 0, n > 1 ? 1 : Due.NONE, n > 2 ? 2 : Due.NONE, n > 3 ? 3 : Due.NONE, Due.NONE);
            row(d, x, 4, 10, Due.NONE, Due.NONE, Due.NONE, Due.NONE);
            d.due("duties of all", x.count(3), n);
        }
        for (int n : Desks.outside(1, 4)) {
            d.due("plan of " + n, Desks.of(24, 63).plan(5, 10, n), Due.RANGE);
        }
    }

    @Holds(at = "Terms III", says = "to a LAWYER that MAY, when those ahead in the row are given so")
    static void whoMayWithThoseAhead(Due d) {
        int[][] rows = {{0, 0, 0, 0}, {0, -1, 0, -1}, {0, -1, -1, 0}, {0, -1, -1, -1}, {0, -1, -1, -1}};
        int[] nones = {0, 2, 2, 3, 3};
        for (int rest = 0; rest < rows.length; rest++) {
            DutyDesk x = Desks.under(1, 1, "rest " + rest + ";");
            d.due("rest " + rest, x.plan(0, 10, 4), nones[rest]);
            row(d, x, 0, 10, rows[rest]);
        }
        DutyDesk y = Desks.under(1, 1, "rest 0;most 3;");
        d.due("most 3", y.plan(0, 10, 4), 1);
        row(d, y, 0, 10, 0, 0, 0, Due.NONE);
        // Each night by its own text: the second may stand by the first, the third not by the second.
        DutyDesk z = Desks.under(1, 1, "rest 0;");
        Due.edition(z, 12, "rest 1;");
        d.due("two texts", z.plan(0, 10, 4), 1);
        row(d, z, 0, 10, 0, 0, Due.NONE, 0);
    }

    @Holds(at = "Terms III", says = "(what DUTIES these nights had is gone)")
    static void whatTheseNightsHadIsGone(Due d) {
        DutyDesk x = Desks.of(1, 3);
        x.duty(0, 11, 0);
        d.due("its own night is not in the way", x.plan(0, 10, 2), 1);
        row(d, x, 0, 10, 0, Due.NONE);
        x.away(0, 10, true);
        x.away(0, 11, true);
        d.due("nobody may", x.plan(0, 10, 2), 2);
        row(d, x, 0, 10, Due.NONE, Due.NONE);
        d.due("duties", x.lawyer(0, 4), 0);
        // Those of other nights and of other panels stay.
        DutyDesk y = Desks.of(2, 3);
        y.duty(0, 9, 0);
        y.duty(1, 10, 1);
        y.duty(0, 14, 0);
        d.due("plan", y.plan(0, 10, 4), 2);
        row(d, y, 0, 9, 0, Due.NONE, 0, 1, Due.NONE, 0);
        d.due("the other panel", y.onDuty(1, 10), 1);
    }

    @Holds(at = "Terms III", says = "or to none: the fewest nights of none")
    static void theFewestNightsOfNone(Due d) {
        // 0 has the lesser number, but with it on the first night none is left for the second.
        DutyDesk x = Desks.of(2, 1);
        x.away(1, 11, true);
        d.due("plan", x.plan(0, 10, 2), 0);
        row(d, x, 0, 10, 1, 0);
        // To none would be more even.
        DutyDesk y = Desks.of(1, 3);
        y.duty(1, 0, 0);
        y.duty(1, 999, 0);
        d.due("plan", y.plan(0, 10, 1), 0);
        d.due("uneven", y.uneven(), 9);
        d.due("nobody on the panel", y.plan(2, 10, 4), 4);
        d.due("no lawyers", new DutyDesk().plan(0, 0, 4), 4);
    }

    @Holds(at = "Terms III", says = "then the least sum over all LAWYERS of squares of how many DUTIES they have (all days and PANELS)")
    static void theLeastSumOfSquares(Due d) {
        DutyDesk x = Desks.under(2, 3, "rest 0;");
        x.duty(1, 0, 0);
        x.duty(1, 500, 0);
        x.duty(1, 999, 0);
        d.due("three nights", x.plan(0, 100, 3), 0);
        row(d, x, 0, 100, 1, 1, 1);
        d.due("uneven", x.uneven(), 18);
        // 3 and 4 are as even as 4 and 3: then the row is the least.
        d.due("four nights", x.plan(0, 100, 4), 0);
        row(d, x, 0, 100, 0, 1, 1, 1);
        d.due("uneven", x.uneven(), 25);
        // The row that begins with the most even night alone is not the most even one.
        DutyDesk y = Desks.of(3, 3);
        y.duty(1, 500, 1);
        y.duty(1, 600, 2);
        y.away(1, 11, true);
        y.away(2, 11, true);
        d.due("two nights", y.plan(0, 10, 2), 0);
        row(d, y, 0, 10, 1, 0);
        d.due("uneven", y.uneven(), 6);
    }

    @Holds(at = "Terms III", says = "then the least row of LAWYERS' numbers (none: 24).")
    static void theLeastRow(Due d) {
        DutyDesk x = Desks.of(1, 1);
        d.due("0 and none", x.plan(0, 10, 2), 1);
        row(d, x, 0, 10, 0, Due.NONE);
        DutyDesk y = Desks.of(23, 1);
        y.enter(0, 2, 0);
        d.due("23 and none", y.plan(1, 10, 2), 1);
        row(d, y, 1, 10, 23, Due.NONE);
        DutyDesk z = Desks.of(3, 1);
        z.away(0, 10, true);
        d.due("1 and 0", z.plan(0, 10, 2), 0);
        row(d, z, 0, 10, 1, 0);
        DutyDesk w = Desks.of(24, 1);
        d.due("at the last days", w.plan(0, 996, 4), 0);
        row(d, w, 0, 996, 0, 1, 2, 3);
    }

    @Holds(at = "Terms III", says = "the least row of LAWYERS' numbers")
    static void theLeastRowOfAsEvenOnes(Due d) {
        // 4 and 3 are as even as 3 and 4, and a row of 0 alone is less than one with 1 at its end.
        DutyDesk x = Desks.under(2, 3, "rest 0;");
        x.duty(1, 0, 1);
        x.duty(1, 500, 1);
        x.duty(1, 999, 1);
        d.due("four nights", x.plan(0, 100, 4), 0);
        row(d, x, 0, 100, 0, 0, 0, 0);
        d.due("uneven", x.uneven(), 25);
        // The first night counts most: 0 and 2 is less than 1 and 0.
        DutyDesk y = Desks.of(3, 1);
        y.away(1, 11, true);
        d.due("two nights", y.plan(0, 10, 2), 0);
        row(d, y, 0, 10, 0, 2);
    }

    @Holds(at = "Promise 15: plan", says = "the PLAN is made, and DUTIES are so: how many of the nights have none")
    static void howManyHaveNone(Due d) {
        for (int n = 1; n <= 4; n++) {
            d.due("without lawyers, " + n, new DutyDesk().plan(0, 0, n), n);
            d.due("with one, " + n, Desks.of(1, 1).plan(0, 0, n), n / 2);
            d.due("with two, " + n, Desks.of(2, 1).plan(0, 0, n), 0);
        }
        DutyDesk x = Desks.of(2, 1);
        x.plan(0, 0, 4);
        d.due("duties of 0", x.lawyer(0, 4), 2);
        d.due("duties of 1", x.lawyer(1, 4), 2);
        d.due("duties of all", x.count(3), 4);
        x.plan(0, 0, 4);
        d.due("the same once more", x.count(3), 4);
    }

    @Holds(at = "Promise 15: plan", says = "RANGE: no such PANEL, n, or a night is behind day 999.")
    static void planRefusesWhatCantBe(Due d) {
        for (int p : Desks.outside(0, 5)) {
            Desks.refused(d, "plan of panel " + p, Desks::busy, x -> x.plan(p, 5, 4), Due.RANGE);
        }
        for (int n : Desks.outside(1, 4)) {
            Desks.refused(d, "plan of " + n, Desks::busy, x -> x.plan(0, 5, n), Due.RANGE);
            Desks.refused(d, "plan of " + n + " from 995", Desks::busy, x -> x.plan(0, 995, n), Due.RANGE);
        }
        for (int n = 1; n <= 4; n++) {
            int nights = n;
            Desks.refused(d, "plan behind 999 of " + n, Desks::busy, x -> x.plan(0, 1001 - nights, nights), Due.RANGE);
            for (int day : new int[] {-1, -2, Integer.MIN_VALUE, Integer.MAX_VALUE, Integer.MAX_VALUE - n + 1}) {
                Desks.refused(d, "plan from " + day, Desks::busy, x -> x.plan(0, day, nights), Due.RANGE);
            }
            d.due("plan up to 999 of " + n, Desks.of(24, 1).plan(0, 1000 - n, n), 0);
        }
    }
}
