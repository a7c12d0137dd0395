/** Who MAY have DUTY in Terms III, and promises 6 (strike), 13 (duty), 14 (onDuty), 16 (uneven). */
final class NightEdges {
    private NightEdges() {
    }

    @Holds(at = "Terms III", says = "of a PANEL and a day one LAWYER has DUTY, or none.")
    static void oneOrNone(Due d) {
        DutyDesk x = Desks.of(2, 63);
        d.due("none", x.onDuty(5, 999), Due.NONE);
        x.duty(5, 999, 0);
        x.duty(5, 999, 1);
        d.due("one", x.onDuty(5, 999), 1);
        d.due("duties of all", x.count(3), 1);
        d.due("another panel", x.onDuty(4, 999), Due.NONE);
        d.due("another day", x.onDuty(5, 998), Due.NONE);
        x.duty(5, 999, -1);
        d.due("none again", x.onDuty(5, 999), Due.NONE);
        d.due("duties of all", x.count(3), 0);
    }

    @Holds(at = "Terms III", says = "it is on the PANEL, not AWAY, not STRUCK on that day")
    static void onThePanelAndThere(Due d) {
        DutyDesk x = new DutyDesk();
        x.enter(0, 62, 0);
        x.enter(0, 31, 0);
        d.due("not on panel 0", x.duty(0, 10, 0), Due.STATE);
        d.due("not on panel 5", x.duty(5, 10, 1), Due.STATE);
        d.due("on panel 5", x.duty(5, 10, 0), Due.NONE);
        d.due("on panel 0", x.duty(0, 10, 1), Due.NONE);
        x.away(0, 20, true);
        d.due("away", x.duty(5, 20, 0), Due.STATE);
        x.away(0, 20, false);
        d.due("back", x.duty(5, 20, 0), Due.NONE);
        x.strike(1, 30);
        d.due("struck", x.duty(0, 30, 1), Due.STATE);
        d.due("not yet struck", x.duty(0, 29, 1), Due.NONE);
    }

    @Holds(at = "Terms III", says = "has no other DUTY on it")
    static void noOtherOnThatDay(Due d) {
        DutyDesk x = Desks.under(1, 63, "rest 0;most 30;");
        d.due("panel 0", x.duty(0, 10, 0), Due.NONE);
        for (int p = 1; p < 6; p++) {
            d.due("panel " + p + " too", x.duty(p, 10, 0), Due.STATE);
        }
        d.due("the same one is no other", x.duty(0, 10, 0), 0);
        d.due("the day ahead", x.duty(1, 9, 0), Due.NONE);
        d.due("the day behind", x.duty(1, 11, 0), Due.NONE);
    }

    @Holds(at = "Terms III", says = "none within rest days ahead or behind (of any PANEL)")
    static void restsAheadAndBehind(Due d) {
        for (int rest = 0; rest <= 9; rest++) {
            for (int p = 0; p < 2; p++) {
                DutyDesk x = Desks.under(1, 3, "rest " + rest + ";most 30;");
                x.duty(0, 50, 0);
                for (int n = 1; n <= rest; n++) {
                    d.due(n + " ahead, rest " + rest, x.duty(p, 50 - n, 0), Due.STATE);
                    d.due(n + " behind, rest " + rest, x.duty(p, 50 + n, 0), Due.STATE);
                }
                d.due("farther ahead, rest " + rest, x.duty(p, 49 - rest, 0), Due.NONE);
                d.due("farther behind, rest " + rest, x.duty(p, 51 + rest, 0), Due.NONE);
            }
        }
        DutyDesk y = Desks.under(1, 3, "rest 9;");
        d.due("day 0", y.duty(0, 0, 0), Due.NONE);
        d.due("day 999", y.duty(0, 999, 0), Due.NONE);
        d.due("day 9", y.duty(0, 9, 0), Due.STATE);
        d.due("day 990", y.duty(0, 990, 0), Due.STATE);
        d.due("day 10", y.duty(0, 10, 0), Due.NONE);
        d.due("day 989", y.duty(0, 989, 0), Due.NONE);
    }

    @Holds(at = "Terms III", says = "and with it, none of the 30 days from any day on has more than most DUTIES of it.")
    static void mostOfThirtyDays(Due d) {
        DutyDesk x = Desks.under(1, 3, "most 1;");
        d.due("day 500", x.duty(0, 500, 0), Due.NONE);
        d.due("529 is of the same 30 days", x.duty(1, 529, 0), Due.STATE);
        d.due("530 is not", x.duty(1, 530, 0), Due.NONE);
        d.due("471 is of the same 30 days", x.duty(1, 471, 0), Due.STATE);
        d.due("470 is not", x.duty(1, 470, 0), Due.NONE);
        DutyDesk y = Desks.under(1, 1, "most 1;");
        d.due("day 0", y.duty(0, 0, 0), Due.NONE);
        d.due("day 29", y.duty(0, 29, 0), Due.STATE);
        d.due("day 30", y.duty(0, 30, 0), Due.NONE);
        d.due("day 999", y.duty(0, 999, 0), Due.NONE);
        d.due("day 970", y.duty(0, 970, 0), Due.STATE);
        d.due("day 969", y.duty(0, 969, 0), Due.NONE);
        // Neither the 30 days up to the night nor those from it on are too full, but others with it are.
        DutyDesk z = Desks.under(1, 1, "most 2;");
        z.duty(0, 90, 0);
        z.duty(0, 110, 0);
        d.due("between two", z.duty(0, 100, 0), Due.STATE);
        d.due("110 has 90 with it", z.duty(0, 119, 0), Due.STATE);
        d.due("120 has 110 alone with it", z.duty(0, 120, 0), Due.NONE);
    }

    @Holds(at = "Terms III", says = "none of the 30 days from any day on has more than most")
    static void mostUpTo30(Due d) {
        DutyDesk x = Desks.under(1, 1, "rest 0;most 30;");
        for (int day = 0; day < 40; day++) {
            d.due("each day " + day, x.duty(0, day, 0), Due.NONE);
        }
        DutyDesk y = Desks.under(1, 1, "rest 0;most 29;");
        for (int day = 0; day < 29; day++) {
            y.duty(0, day, 0);
        }
        d.due("a 30th in 30 days", y.duty(0, 29, 0), Due.STATE);
        d.due("a 29th in 30 days", y.duty(0, 30, 0), Due.NONE);
    }

    @Holds(at = "Terms III", says = "(rest and most as IN FORCE on the night's day, as known now.)")
    static void byTheTextOfTheNight(Due d) {
        DutyDesk x = Desks.of(1, 1);
        Due.edition(x, 50, "rest 5;most 30;");
        x.duty(0, 47, 0);
        d.due("day 49, with rest 1", x.duty(0, 49, 0), Due.NONE);
        x.duty(0, 49, -1);
        d.due("day 50, with rest 5", x.duty(0, 50, 0), Due.STATE);
        d.due("day 53, with rest 5", x.duty(0, 53, 0), Due.NONE);
        d.due("day 51 that is ahead of it", x.duty(0, 51, 0), Due.STATE);
        d.due("day 49 by its own text", x.duty(0, 49, 0), Due.NONE);
        Due.edition(x, 0, "rest 9;");
        d.due("day 41 as known now", x.duty(0, 41, 0), Due.STATE);
        DutyDesk y = Desks.of(1, 1);
        Due.edition(y, 20, "most 1;");
        y.duty(0, 0, 0);
        d.due("day 19, most 8", y.duty(0, 19, 0), Due.NONE);
        d.due("day 21, most 1", y.duty(0, 21, 0), Due.STATE);
        Due.edition(y, 20, "most 2;");
        d.due("day 21 as known now: 0 .. 29 has three", y.duty(0, 21, 0), Due.STATE);
        d.due("day 30 as known now: 1 .. 30 has two", y.duty(0, 30, 0), Due.NONE);
    }

    @Holds(at = "Promise 6: strike", says = "A LAWYER is STRUCK from a day on (an earlier one than before, if it was)")
    static void struckEarlierOnly(Due d) {
        DutyDesk x = Desks.of(1, 1);
        d.due("from 999", x.strike(0, 999), 0);
        d.due("from 10", x.strike(0, 10), 0);
        d.due("from 10 again", x.strike(0, 10), Due.RANGE);
        d.due("from 11", x.strike(0, 11), Due.RANGE);
        d.due("from 999", x.strike(0, 999), Due.RANGE);
        d.due("it is as it was", x.lawyer(0, 3), 10);
        d.due("from 9", x.strike(0, 9), 0);
        d.due("from 0", x.strike(0, 0), 0);
        d.due("from 0 again", x.strike(0, 0), Due.RANGE);
        Desks.refused(d, "the same day", Desks::busy, y -> y.strike(3, 25), Due.RANGE);
        Desks.refused(d, "a later day", Desks::busy, y -> y.strike(3, 26), Due.RANGE);
    }

    @Holds(at = "Promise 6: strike", says = "how many DUTIES it had from then on")
    static void howManyFromThenOn(Due d) {
        DutyDesk x = Desks.of(2, 63);
        x.duty(0, 8, 0);
        x.duty(3, 10, 0);
        x.duty(5, 12, 0);
        x.duty(0, 999, 0);
        x.duty(0, 10, 1);
        d.due("10, 12 and 999", x.strike(0, 10), 3);
        d.due("its duties", x.lawyer(0, 4), 1);
        d.due("8 stays", x.onDuty(0, 8), 0);
        d.due("another's stays", x.onDuty(0, 10), 1);
        d.due("none between 9 and 10", x.strike(0, 9), 0);
        d.due("8", x.strike(0, 8), 1);
        d.due("one without", Desks.of(1, 1).strike(0, 0), 0);
        for (int other = 1; other < 24; other++) {
            DutyDesk y = Desks.of(24, 63);
            y.duty(0, 10, 0);
            y.duty(5, 10, other);
            d.due("one, beside " + other, y.strike(0, 10), 1);
            d.due("another panel's of that day stays", y.onDuty(5, 10), other);
        }
    }

    @Holds(at = "Promise 6: strike", says = "which go, one by one by day, then PANEL")
    static void byDayOneByOne(Due d) {
        DutyDesk x = Desks.of(3, 63);
        x.duty(5, 10, 0);
        x.duty(0, 12, 0);
        x.strike(0, 10);
        d.due("10 goes first", x.onDuty(5, 10), 1);
        d.due("12 goes next", x.onDuty(0, 12), 2);
        // With what was given ahead of it, 1 rests on the second day.
        DutyDesk y = Desks.under(2, 1, "rest 0;");
        y.duty(0, 10, 0);
        y.duty(0, 11, 0);
        Due.edition(y, 0, "rest 1;");
        d.due("two", y.strike(0, 10), 2);
        d.due("10", y.onDuty(0, 10), 1);
        d.due("11", y.onDuty(0, 11), Due.NONE);
    }

    @Holds(at = "Promise 6: strike", says = "each to the LAWYER that MAY with the fewest DUTIES")
    static void toTheOneWithTheFewest(Due d) {
        DutyDesk x = Desks.of(5, 3);
        x.duty(0, 100, 0);
        x.duty(1, 0, 1);
        x.duty(1, 999, 1);
        x.duty(1, 500, 2);
        x.away(3, 100, true);
        x.duty(1, 101, 4);
        x.strike(0, 100);
        d.due("3 is away, 4 rests, 1 has two", x.onDuty(0, 100), 2);
        d.due("its duties", x.lawyer(2, 4), 2);
        DutyDesk y = new DutyDesk();
        y.enter(0, 1, 0);
        y.enter(0, 2, 0);
        y.enter(0, 1, 0);
        y.duty(0, 100, 0);
        y.duty(0, 0, 2);
        y.strike(0, 50);
        d.due("1 is not on the panel", y.onDuty(0, 100), 2);
        DutyDesk z = Desks.of(24, 1);
        for (int l = 1; l < 23; l++) {
            z.duty(0, 2 * l, l);
        }
        z.duty(0, 100, 1);
        z.strike(1, 100);
        d.due("0 has none", z.onDuty(0, 100), 0);
        z.strike(0, 100);
        d.due("then 23 has none", z.onDuty(0, 100), 23);
    }

    @Holds(at = "Promise 6: strike", says = "(of as many the lesser number)")
    static void ofAsManyTheLesser(Due d) {
        DutyDesk x = Desks.of(24, 1);
        x.duty(0, 100, 10);
        x.duty(0, 0, 0);
        x.duty(0, 2, 1);
        x.strike(10, 100);
        d.due("2 is the least without", x.onDuty(0, 100), 2);
        DutyDesk y = Desks.of(3, 1);
        y.duty(0, 100, 0);
        y.duty(0, 0, 1);
        y.duty(0, 2, 2);
        y.strike(0, 100);
        d.due("both have one", y.onDuty(0, 100), 1);
    }

    @Holds(at = "Promise 6: strike", says = "or to none")
    static void orToNone(Due d) {
        DutyDesk x = Desks.of(1, 1);
        x.duty(0, 100, 0);
        d.due("one", x.strike(0, 100), 1);
        d.due("nobody is left", x.onDuty(0, 100), Due.NONE);
        d.due("duties of all", x.count(3), 0);
        DutyDesk y = Desks.of(2, 1);
        y.duty(0, 100, 0);
        y.strike(1, 100);
        y.strike(0, 0);
        d.due("the other is struck, too", y.onDuty(0, 100), Due.NONE);
    }

    @Holds(at = "Promise 6: strike", says = "; RANGE.")
    static void strikeRefusesWhatCantBe(Due d) {
        for (int l : Desks.outside(0, 3)) {
            Desks.refused(d, "strike of " + l, Desks::busy, x -> x.strike(l, 5), Due.RANGE);
        }
        for (int day : Desks.outside(0, 999)) {
            Desks.refused(d, "strike from " + day, Desks::busy, x -> x.strike(0, day), Due.RANGE);
        }
        d.due("of none", new DutyDesk().strike(0, 0), Due.RANGE);
    }

    @Holds(at = "Promise 13: duty", says = "A LAWYER (NONE: none) has DUTY of a PANEL on a day: who had (NONE)")
    static void dutyTellsWhoHad(Due d) {
        DutyDesk x = Desks.of(24, 63);
        d.due("none to none", x.duty(0, 0, -1), Due.NONE);
        d.due("none to the first", x.duty(0, 0, 0), Due.NONE);
        d.due("the first to the last", x.duty(0, 0, 23), 0);
        d.due("the last to itself", x.duty(0, 0, 23), 23);
        d.due("the last to none", x.duty(0, 0, -1), 23);
        d.due("duties of the last", x.lawyer(23, 4), 0);
        d.due("on the last panel and day", x.duty(5, 999, 23), Due.NONE);
        d.due("it has it", x.onDuty(5, 999), 23);
    }

    @Holds(at = "Promise 13: duty", says = "RANGE: no such")
    static void dutyRefusesWhatCantBe(Due d) {
        for (int p : Desks.outside(0, 5)) {
            Desks.refused(d, "duty of panel " + p, Desks::busy, x -> x.duty(p, 5, 0), Due.RANGE);
        }
        for (int day : Desks.outside(0, 999)) {
            Desks.refused(d, "duty on " + day, Desks::busy, x -> x.duty(0, day, -1), Due.RANGE);
        }
        for (int l : Desks.outside(-1, 3)) {
            Desks.refused(d, "duty of " + l, Desks::busy, x -> x.duty(0, 5, l), Due.RANGE);
        }
    }

    @Holds(at = "Promise 13: duty", says = "STATE: it MAY not (when nobody has it).")
    static void dutyOfOneThatMayNot(Due d) {
        Desks.refused(d, "not on the panel", Desks::busy, x -> x.duty(1, 995, 1), Due.STATE);
        Desks.refused(d, "away", Desks::busy, x -> x.duty(1, 29, 1), Due.STATE);
        Desks.refused(d, "struck", Desks::busy, x -> x.duty(5, 25, 3), Due.STATE);
        Desks.refused(d, "not on it, and it is another's", Desks::busy, x -> x.duty(5, 20, 0), Due.STATE);
        // The one that has it MAY when nobody has it, unless something came between.
        DutyDesk x = Desks.under(1, 1, "most 1;rest 9;");
        x.duty(0, 10, 0);
        d.due("its own night is not in its way", x.duty(0, 10, 0), 0);
        x.away(0, 10, true);
        d.due("now it is away", x.duty(0, 10, 0), Due.STATE);
        d.due("but keeps it", x.onDuty(0, 10), 0);
        d.due("its duties", x.lawyer(0, 4), 1);
    }

    @Holds(at = "Promise 14: onDuty", says = "Who has DUTY; NONE")
    static void onDutyOrNone(Due d) {
        DutyDesk x = Desks.of(24, 63);
        x.duty(0, 0, 0);
        x.duty(5, 999, 23);
        d.due("the first", x.onDuty(0, 0), 0);
        d.due("the last", x.onDuty(5, 999), 23);
        d.due("none", x.onDuty(5, 0), Due.NONE);
        d.due("none", x.onDuty(0, 999), Due.NONE);
    }

    @Holds(at = "Promise 14: onDuty", says = "RANGE.")
    static void onDutyRange(Due d) {
        for (int p : Desks.outside(0, 5)) {
            d.due("panel " + p, Desks.busy().onDuty(p, 5), Due.RANGE);
        }
        for (int day : Desks.outside(0, 999)) {
            d.due("day " + day, Desks.busy().onDuty(0, day), Due.RANGE);
        }
    }

    @Holds(at = "Promise 16: uneven", says = "The sum of squares of DUTIES of all LAWYERS.")
    static void unevenFrom0ToAMillion(Due d) {
        d.due("without lawyers", new DutyDesk().uneven(), 0);
        DutyDesk x = Desks.under(24, 63, "rest 0;most 30;");
        d.due("without duties", x.uneven(), 0);
        for (int n = 0; n < 250; n++) {
            x.plan(5, 4 * n, 4);
        }
        d.due("1000 nights shared out evenly", x.uneven(), 16 * 42 * 42 + 8 * 41 * 41);
        DutyDesk y = Desks.under(1, 1, "rest 0;most 30;");
        for (int n = 0; n < 250; n++) {
            y.plan(0, 4 * n, 4);
        }
        d.due("1000 nights of one", y.uneven(), 1000 * 1000);
    }
}
