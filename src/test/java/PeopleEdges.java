import java.util.function.ToIntFunction;

/** Terms I, and promises 4 (enter), 5 (away), 7 (travel), 8 (lawyer). */
final class PeopleEdges {
    private PeopleEdges() {
    }

    @Holds(at = "Terms I", says = "LAWYERS, at most 24, numbered from 0 as they come")
    static void atMost24Lawyers(Due d) {
        DutyDesk x = new DutyDesk();
        for (int l = 0; l < 24; l++) {
            d.due("enter", x.enter(l % 10, l, 255 - l), l);
        }
        d.due("a 25th", x.enter(0, 0, 0), Due.FULL);
        for (int l = 0; l < 24; l++) {
            d.due("town of " + l, x.lawyer(l, 0), l % 10);
            d.due("panels of " + l, x.lawyer(l, 1), l);
            d.due("tongues of " + l, x.lawyer(l, 2), 255 - l);
        }
    }

    @Holds(at = "Terms I", says = "each of a TOWN 0 .. 9")
    static void towns0To9(Due d) {
        DutyDesk x = new DutyDesk();
        for (int town = 0; town <= 9; town++) {
            d.due("town " + town, x.enter(town, 1, 1), town);
            d.due("its town", x.lawyer(town, 0), town);
        }
        for (int town : Desks.outside(0, 9)) {
            d.due("town " + town, x.enter(town, 1, 1), Due.RANGE);
        }
    }

    @Holds(at = "Terms I", says = "on PANELS (bits 0 .. 5)")
    static void panelBits0To5(Due d) {
        DutyDesk x = new DutyDesk();
        d.due("no panels", x.enter(0, 0, 0), 0);
        for (int p = 0; p <= 5; p++) {
            d.due("panel " + p, x.enter(0, 1 << p, 0), p + 1);
            d.due("on no panel", x.duty(p, 10 * p, 0), Due.STATE);
            d.due("on panel " + p, x.duty(p, 10 * p, p + 1), Due.NONE);
            d.due("not on another", x.duty((p + 1) % 6, 10 * p + 3, p + 1), Due.STATE);
        }
        d.due("all", x.enter(0, 63, 0), 7);
        d.due("its panels", x.lawyer(7, 1), 63);
        for (int panels : Desks.outside(0, 63)) {
            d.due("panels " + panels, x.enter(0, panels, 0), Due.RANGE);
        }
    }

    @Holds(at = "Terms I", says = "with TONGUES (bits 0 .. 7)")
    static void tongueBits0To7(Due d) {
        DutyDesk x = new DutyDesk();
        d.due("no tongues", x.enter(0, 1, 0), 0);
        for (int tongue = 0; tongue <= 7; tongue++) {
            d.due("tongue " + tongue, x.enter(0, 1, 1 << tongue), tongue + 1);
        }
        for (int tongue = 0; tongue <= 7; tongue++) {
            x.call(0, 0, 0, 0, tongue, 0, tongue);
            d.due("asked", x.asked(tongue), tongue + 1);
            d.due("and nobody else", x.answer(tongue, false), Due.NONE);
        }
        d.due("all", x.enter(0, 1, 255), 9);
        d.due("its tongues", x.lawyer(9, 2), 255);
        for (int tongues : Desks.outside(0, 255)) {
            d.due("tongues " + tongues, x.enter(0, 1, tongues), Due.RANGE);
        }
    }

    @Holds(at = "Terms I", says = "DAYS 0 .. 999")
    static void days0To999(Due d) {
        for (int day : Desks.outside(0, 999)) {
            DutyDesk x = Desks.of(1, 1);
            d.due("away on " + day, x.away(0, day, true), Due.RANGE);
            d.due("duty on " + day, x.duty(0, day, 0), Due.RANGE);
            d.due("onDuty on " + day, x.onDuty(0, day), Due.RANGE);
            d.due("plan from " + day, x.plan(0, day, 1), Due.RANGE);
            d.due("edition of " + day, x.edition(day), Due.RANGE);
            d.due("inForce on " + day, x.inForce(day, 0), Due.RANGE);
            d.due("call on " + day, x.call(day, 0, 0, 0, -1, 0, 0), Due.RANGE);
            d.due("strike from " + day, x.strike(0, day), Due.RANGE);
        }
        for (int day = 0; day <= 999; day += 999) {
            DutyDesk x = Desks.of(1, 1);
            d.due("duty on " + day, x.duty(0, day, 0), Due.NONE);
            d.due("onDuty on " + day, x.onDuty(0, day), 0);
            d.due("plan from " + day, x.plan(0, day, 1), 0);
            d.due("edition of " + day, x.edition(day), 0);
            d.due("inForce on " + day, x.inForce(day, 1), 0);
            d.due("call on " + day, x.call(day, 0, 0, 0, -1, 0, 0), 0);
            d.due("away on " + day, x.away(0, day, true), 1);
            d.due("strike from " + day, x.strike(0, day), 1);
        }
    }

    @Holds(at = "Terms I", says = "One may be AWAY on a day")
    static void awayOnThatDayAlone(Due d) {
        for (int day = 0; day <= 999; day += 333) {
            DutyDesk x = Desks.under(2, 1, "rest 0;");
            x.away(0, day, true);
            d.due("away", x.duty(0, day, 0), Due.STATE);
            d.due("another is not", x.duty(0, day, 1), Due.NONE);
            if (day > 0) {
                d.due("the day ahead", x.duty(0, day - 1, 0), Due.NONE);
            }
            if (day < 999) {
                d.due("the day behind", x.duty(0, day + 1, 0), Due.NONE);
            }
        }
    }

    @Holds(at = "Terms I", says = "and is STRUCK from a day on (if it was)")
    static void struckFromThatDayOn(Due d) {
        DutyDesk x = Desks.of(2, 1);
        d.due("never struck: day 999", x.duty(0, 999, 0), Due.NONE);
        x.strike(0, 10);
        d.due("the day ahead", x.duty(0, 9, 0), Due.NONE);
        x.duty(0, 9, -1);
        d.due("that day", x.duty(0, 10, 0), Due.STATE);
        d.due("the day behind", x.duty(0, 11, 0), Due.STATE);
        d.due("the last day", x.duty(0, 999, 0), Due.STATE);
        d.due("another is not", x.duty(0, 10, 1), Due.NONE);
    }

    @Holds(at = "Terms I", says = "TRAVEL between two TOWNS takes 0 .. 600 minutes, or isn't told (NONE)")
    static void travelTakes0To600(Due d) {
        for (int minutes = 0; minutes <= 600; minutes += 600) {
            DutyDesk x = new DutyDesk();
            x.enter(8, 1, 0);
            d.due("travel", x.travel(9, 8, minutes), Due.NONE);
            x.call(0, 0, 0, 9, -1, 0, 0);
            d.due("asked", x.asked(0), 0);
            x.answer(0, true);
            d.due("is there", x.told(0, 3), minutes);
            d.due("told no more", x.travel(9, 8, -1), minutes);
            x.call(0, 0, 0, 9, -1, 0, 0);
            d.due("nobody", x.asked(1), Due.NONE);
        }
        DutyDesk y = new DutyDesk();
        for (int minutes : Desks.outside(-1, 600)) {
            d.due("travel of " + minutes, y.travel(8, 9, minutes), Due.RANGE);
        }
    }

    @Holds(at = "Terms I", says = "within one 10")
    static void within10(Due d) {
        for (int town = 0; town <= 9; town++) {
            DutyDesk x = new DutyDesk();
            x.enter(town, 1, 0);
            x.call(0, 0, 0, town, -1, 0, 0);
            x.answer(0, true);
            d.due("within town " + town, x.told(0, 3), 10);
        }
    }

    @Holds(at = "Promise 4: enter", says = "its number; RANGE")
    static void enterRefusesWhatCantBe(Due d) {
        enterRefused(d, x -> x.enter(-1, 1, 1));
        enterRefused(d, x -> x.enter(10, 1, 1));
        enterRefused(d, x -> x.enter(1, -1, 1));
        enterRefused(d, x -> x.enter(1, 64, 1));
        enterRefused(d, x -> x.enter(1, 1, -1));
        enterRefused(d, x -> x.enter(1, 1, 256));
        DutyDesk x = Desks.busy();
        d.due("the next one's number", x.enter(0, 0, 0), 4);
    }

    private static void enterRefused(Due d, ToIntFunction<DutyDesk> call) {
        Desks.refused(d, "enter", Desks::busy, call, Due.RANGE);
    }

    @Holds(at = "Promise 4: enter", says = "FULL")
    static void enterIsFullWith24(Due d) {
        d.due("a 24th", Desks.of(23, 1).enter(9, 63, 255), 23);
        Desks.refused(d, "a 25th", Desks::fullOfLawyers, x -> x.enter(9, 63, 255), Due.FULL);
        d.due("a 25th that can't be", Desks.fullOfLawyers().enter(10, 1, 1), Due.RANGE);
    }

    @Holds(at = "Promise 5: away", says = "1 if it was otherwise, else 0")
    static void awayTellsWhetherItWasOtherwise(Due d) {
        DutyDesk x = Desks.of(24, 1);
        d.due("back, and was not away", x.away(23, 999, false), 0);
        d.due("away", x.away(23, 999, true), 1);
        d.due("away, and was", x.away(23, 999, true), 0);
        d.due("another", x.away(22, 999, true), 1);
        d.due("another day", x.away(23, 998, true), 1);
        d.due("back", x.away(23, 999, false), 1);
        d.due("back, and was", x.away(23, 999, false), 0);
        d.due("the others stay away", x.away(22, 999, true), 0);
    }

    @Holds(at = "Promise 5: away", says = "; RANGE.")
    static void awayRefusesWhatCantBe(Due d) {
        for (int l : Desks.outside(0, 3)) {
            Desks.refused(d, "away of " + l, Desks::busy, x -> x.away(l, 6, true), Due.RANGE);
        }
        for (int day : Desks.outside(0, 999)) {
            Desks.refused(d, "away on " + day, Desks::busy, x -> x.away(0, day, true), Due.RANGE);
        }
        d.due("of none", new DutyDesk().away(0, 0, false), Due.RANGE);
    }

    @Holds(at = "Promise 7: travel", says = "TRAVEL between two TOWNS (unlike ones)")
    static void travelIsBetweenUnlikeTowns(Due d) {
        for (int town = 0; town <= 9; town++) {
            int same = town;
            Desks.refused(d, "travel within " + town, Desks::busy, x -> x.travel(same, same, 20), Due.RANGE);
            Desks.refused(d, "no travel within " + town, Desks::busy, x -> x.travel(same, same, -1), Due.RANGE);
        }
    }

    @Holds(at = "Promise 7: travel", says = "minutes 0 .. 600 or NONE: what it was")
    static void travelTellsWhatItWas(Due d) {
        DutyDesk x = new DutyDesk();
        d.due("600", x.travel(0, 9, 600), Due.NONE);
        d.due("0, the other way", x.travel(9, 0, 0), 600);
        d.due("NONE", x.travel(0, 9, -1), 0);
        d.due("NONE again", x.travel(9, 0, -1), Due.NONE);
        d.due("1", x.travel(9, 0, 1), Due.NONE);
        d.due("the same again", x.travel(0, 9, 1), 1);
        d.due("between others", x.travel(0, 8, 1), Due.NONE);
    }

    @Holds(at = "Promise 7: travel", says = "; RANGE.")
    static void travelRefusesWhatCantBe(Due d) {
        for (int town : Desks.outside(0, 9)) {
            Desks.refused(d, "from " + town, Desks::busy, x -> x.travel(town, 1, 20), Due.RANGE);
            Desks.refused(d, "to " + town, Desks::busy, x -> x.travel(1, town, 20), Due.RANGE);
        }
        for (int minutes : Desks.outside(-1, 600)) {
            Desks.refused(d, "of " + minutes, Desks::busy, x -> x.travel(0, 1, minutes), Due.RANGE);
        }
    }

    @Holds(at = "Promise 8: lawyer", says = "3: from when it is STRUCK (NONE)")
    static void lawyerTellsFromWhenItIsStruck(Due d) {
        DutyDesk x = Desks.of(2, 1);
        d.due("never", x.lawyer(0, 3), Due.NONE);
        x.strike(0, 999);
        d.due("the last day", x.lawyer(0, 3), 999);
        x.strike(0, 0);
        d.due("the first day", x.lawyer(0, 3), 0);
        d.due("another, never", x.lawyer(1, 3), Due.NONE);
    }

    @Holds(at = "Promise 8: lawyer", says = "4: DUTIES, 5: CALLS that it has taken.")
    static void lawyerCountsDutiesAndCallsFrom0(Due d) {
        DutyDesk x = Desks.of(2, 3);
        d.due("no duties", x.lawyer(1, 4), 0);
        d.due("no calls", x.lawyer(1, 5), 0);
        x.duty(1, 0, 1);
        x.duty(0, 999, 1);
        d.due("duties of the first and the last day", x.lawyer(1, 4), 2);
        x.duty(0, 999, -1);
        d.due("one is gone", x.lawyer(1, 4), 1);
        x.call(0, 0, 0, 0, -1, 0, 0);
        x.answer(0, false);
        d.due("asked only", x.lawyer(1, 5), 0);
        x.answer(0, true);
        d.due("taken", x.lawyer(1, 5), 1);
        d.due("refused", x.lawyer(0, 5), 0);
    }

    @Holds(at = "Promise 8: lawyer", says = "NONE when there is none such.")
    static void lawyerThatIsNot(Due d) {
        for (int l : Desks.outside(0, 3)) {
            d.due("lawyer " + l, Desks.busy().lawyer(l, 0), Due.NONE);
        }
        for (int what : Desks.outside(0, 5)) {
            d.due("what " + what, Desks.busy().lawyer(0, what), Due.NONE);
        }
        d.due("of none", new DutyDesk().lawyer(0, 1), Due.NONE);
        d.due("a 25th", Desks.fullOfLawyers().lawyer(24, 1), Due.NONE);
        d.due("the 24th", Desks.fullOfLawyers().lawyer(23, 1), 1);
    }
}
