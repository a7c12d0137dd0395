/** The EDITIONS of Terms II, and promises 9 (edition), 10 (fault), 11 (inForce), 12 (rule). */
final class EditionEdges {
    private EditionEdges() {
    }

    private static DutyDesk firstDays(int... days) {
        DutyDesk x = new DutyDesk();
        for (int day : days) {
            x.edition(day);
        }
        return x;
    }

    @Holds(at = "Terms II", says = "EDITIONS, at most 20, numbered from 0 as they are told, each with a first day.")
    static void atMost20Editions(Due d) {
        DutyDesk x = new DutyDesk();
        for (int e = 0; e < 20; e++) {
            d.due("edition", Due.edition(x, 999 - e, "ask " + e + ";"), e);
        }
        d.due("a 21st", Due.edition(x, 0, "ask 20;"), Due.FULL);
        for (int e = 0; e < 20; e++) {
            d.due("ask of " + e, x.rule(e, 1), e);
            d.due("first day of " + e, x.rule(e, 11), 999 - e);
        }
    }

    @Holds(at = "Terms II", says = "IN FORCE on a day, as KNOWN with the first k EDITIONS")
    static void theFirstKAreKnown(Due d) {
        DutyDesk x = firstDays(0, 0, 0);
        for (int k = 0; k <= 3; k++) {
            d.due("known with " + k, x.inForce(0, k), k - 1);
        }
    }

    @Holds(at = "Terms II", says = "of these, with a first day not behind it")
    static void firstDayNotBehind(Due d) {
        DutyDesk x = firstDays(10);
        d.due("the day ahead", x.inForce(9, 1), Due.NONE);
        d.due("its first day", x.inForce(10, 1), 0);
        d.due("the day behind", x.inForce(11, 1), 0);
        d.due("the last day", x.inForce(999, 1), 0);
        DutyDesk y = firstDays(0, 999);
        d.due("day 0", y.inForce(0, 2), 0);
        d.due("day 998", y.inForce(998, 2), 0);
        d.due("day 999", y.inForce(999, 2), 1);
    }

    @Holds(at = "Terms II", says = "the one with the latest first day")
    static void theLatestFirstDay(Due d) {
        DutyDesk x = firstDays(20, 30, 10);
        d.due("day 9", x.inForce(9, 3), Due.NONE);
        d.due("day 19", x.inForce(19, 3), 2);
        d.due("day 29", x.inForce(29, 3), 0);
        d.due("day 30", x.inForce(30, 3), 1);
    }

    @Holds(at = "Terms II", says = "of such the one told last")
    static void ofSuchTheOneToldLast(Due d) {
        DutyDesk x = firstDays(20, 20, 10, 20, 10);
        d.due("day 20", x.inForce(20, 5), 3);
        d.due("day 20 with 3", x.inForce(20, 3), 1);
        d.due("day 10", x.inForce(10, 5), 4);
        d.due("day 10 with 4", x.inForce(10, 4), 2);
    }

    @Holds(at = "Terms II", says = "without any: a text without lines.")
    static void withoutAnyATextWithoutLines(Due d) {
        DutyDesk x = Desks.of(1, 1);
        Due.edition(x, 6, "call 7;bar town;reach 0;");
        Desks.taken(x, 5);
        d.due("taken", x.told(0, 0), 1);
        d.due("the claim as it is without a text", x.claim(0, 1), 80);
        d.due("not late", x.told(0, 4), 0);
        d.due("no bars", x.barred(0, 0), 0);
        x.call(6, 0, 0, 0, -1, 0, 0);
        d.due("with one there is a bar", x.barred(1, 0), 64);
    }

    @Holds(at = "Promise 9: edition", says = "THE TAPE (read, and empty then) is an EDITION with a first day: its number")
    static void theTapeIsEmptyThen(Due d) {
        DutyDesk x = new DutyDesk();
        d.due("a text", Due.edition(x, 0, "ask 7;"), 0);
        d.due("the tape", x.count(4), 0);
        d.due("an empty text", x.edition(999), 1);
        d.due("tells nothing of the one ahead", x.rule(1, 1), 10);
        d.due("its first day", x.rule(1, 11), 999);
        d.due("a text with a fault", Due.edition(x, 0, "ask 7;x"), Due.NONE);
        d.due("the tape", x.count(4), 0);
        DutyDesk y = Desks.fullOfEditions();
        Due.edition(y, 0, "ask 7;");
        d.due("the tape when it is full", y.count(4), 0);
    }

    @Holds(at = "Promise 9: edition", says = "RANGE: no such day (THE TAPE is empty, too)")
    static void editionOfNoSuchDay(Due d) {
        for (int day : Desks.outside(0, 999)) {
            DutyDesk x = Desks.busy();
            d.due("edition(" + day + ")", x.edition(day), Due.RANGE);
            d.due("the tape", x.count(4), 0);
            d.due("editions", x.count(1), 2);
            View.same(d, "but for the tape", () -> emptyTape(Desks.busy()), () -> {
                DutyDesk y = Desks.busy();
                y.edition(day);
                return y;
            });
        }
        DutyDesk z = Desks.fullOfEditions();
        d.due("when it is full", z.edition(1000), Due.RANGE);
        d.due("a wrong text of no such day", Due.edition(z, -1, "ask"), Due.RANGE);
    }

    private static DutyDesk emptyTape(DutyDesk x) {
        x.end(0);
        return x;
    }

    @Holds(at = "Promise 9: edition", says = "NONE with a FAULT")
    static void noneWithAFault(Due d) {
        DutyDesk x = new DutyDesk();
        d.due("syntax", Due.edition(x, 5, "ask 7;ask"), Due.NONE);
        d.due("range", Due.edition(x, 5, "ask 7;rest 10;"), Due.NONE);
        d.due("twice", Due.edition(x, 5, "ask 7;ask 7;"), Due.NONE);
        d.due("editions", x.count(1), 0);
        d.due("in force", x.inForce(5, 0), Due.NONE);
        d.due("the next one tells nothing of these", Due.edition(x, 5, "cap 1;"), 0);
        d.due("ask", x.rule(0, 1), 10);
        d.due("when it is full", Due.edition(Desks.fullOfEditions(), 5, "ask"), Due.NONE);
    }

    @Holds(at = "Promise 9: edition", says = "FULL")
    static void editionIsFullWith20(Due d) {
        Desks.refused(d, "a 21st", Desks::fullOfEditions, x -> x.edition(0), Due.FULL);
        DutyDesk x = Desks.fullOfEditions();
        d.due("a 21st", Due.edition(x, 999, "ask 7;"), Due.FULL);
        d.due("editions", x.count(1), 20);
        d.due("in force", x.inForce(999, 20), 19);
        d.due("ask of the last", x.rule(19, 1), 19);
    }

    @Holds(at = "Promise 10: fault", says = "Of the latest edition() that was not RANGE")
    static void ofTheLatestThatWasNotRange(Due d) {
        DutyDesk x = new DutyDesk();
        Due.edition(x, 0, "ask 7;rest 10;");
        Due.edition(x, 1000, "ask");
        d.due("kind behind RANGE", x.fault(0), 2);
        d.due("place behind RANGE", x.fault(1), 11);
        Due.edition(x, -1, "ask 7;");
        d.due("kind behind RANGE", x.fault(0), 2);
        Due.edition(x, 0, "ask");
        d.due("kind behind another fault", x.fault(0), 1);
        d.due("place behind another fault", x.fault(1), 3);
        DutyDesk y = Desks.fullOfEditions();
        Due.edition(y, 0, "ask");
        d.due("kind when it is full", y.fault(0), 1);
        Due.edition(y, 0, "ask 7;");
        d.due("kind behind FULL", y.fault(0), 0);
        d.due("place behind FULL", y.fault(1), Due.NONE);
    }

    @Holds(at = "Promise 10: fault", says = "what 0: its FAULT's KIND, 0 without, 1: its PLACE (NONE).")
    static void withoutAFault(Due d) {
        DutyDesk x = new DutyDesk();
        d.due("kind without an edition", x.fault(0), 0);
        d.due("place without an edition", x.fault(1), Due.NONE);
        Due.edition(x, 0, "x");
        d.due("kind", x.fault(0), 1);
        d.due("place", x.fault(1), 0);
        x.edition(0);
        d.due("kind without a fault", x.fault(0), 0);
        d.due("place without a fault", x.fault(1), Due.NONE);
    }

    @Holds(at = "Promise 10: fault", says = "NONE for another what.")
    static void faultOfAnotherWhat(Due d) {
        DutyDesk x = new DutyDesk();
        Due.edition(x, 0, "x");
        for (int what : Desks.outside(0, 1)) {
            d.due("fault(" + what + ")", x.fault(what), Due.NONE);
        }
    }

    @Holds(at = "Promise 11: inForce", says = "NONE: none")
    static void inForceNone(Due d) {
        DutyDesk x = firstDays(1);
        d.due("ahead of its first day", x.inForce(0, 1), Due.NONE);
        d.due("not known", x.inForce(1, 0), Due.NONE);
        d.due("without editions", new DutyDesk().inForce(999, 0), Due.NONE);
    }

    @Holds(at = "Promise 11: inForce", says = "RANGE: no such day, k (0 .. how many there are).")
    static void inForceRange(Due d) {
        DutyDesk x = firstDays(0, 5);
        for (int day : Desks.outside(0, 999)) {
            d.due("day " + day, x.inForce(day, 2), Due.RANGE);
        }
        for (int k : Desks.outside(0, 2)) {
            d.due("k " + k, x.inForce(5, k), Due.RANGE);
        }
        d.due("k 2", x.inForce(5, 2), 1);
        d.due("k 0", x.inForce(5, 0), Due.NONE);
        d.due("k 1 without editions", new DutyDesk().inForce(0, 1), Due.RANGE);
        d.due("k 20", Desks.fullOfEditions().inForce(999, 20), 19);
        d.due("k 21", Desks.fullOfEditions().inForce(999, 21), Due.RANGE);
    }

    @Holds(at = "Promise 12: rule", says = "Of EDITION e (NONE: a text without lines)")
    static void ruleOfATextWithoutLines(Due d) {
        int[] plain = {45, 10, 1, 8, 100, 60, 1, 20, 400, 0, 0, Due.NONE};
        for (int what = 0; what < plain.length; what++) {
            d.due("rule(NONE, " + what + ")", new DutyDesk().rule(Due.NONE, what), plain[what]);
            d.due("rule(NONE, " + what + ") beside others", Desks.busy().rule(Due.NONE, what), plain[what]);
        }
    }

    @Holds(at = "Promise 12: rule", says = "what 0 .. 8: reach, ask, rest, most, night, call, minute, late, cap; "
        + "9: order (0 nights, 1 calls, 2 near); 10: bars (bits: 1 fellow, 2 against, 4 town)")
    static void rulesFrom0To10(Due d) {
        DutyDesk x = new DutyDesk();
        Due.edition(x, 0, "reach 30;ask 31;rest 2;most 3;night 34;call 35;minute 36;late 37;cap 38;order calls;bar fellow;");
        int[] want = {30, 31, 2, 3, 34, 35, 36, 37, 38, 1, 1};
        for (int what = 0; what < want.length; what++) {
            d.due("rule(0, " + what + ")", x.rule(0, what), want[what]);
        }
        Due.edition(x, 0, "order nights;bar against;");
        d.due("nights", x.rule(1, 9), 0);
        d.due("against", x.rule(1, 10), 2);
        Due.edition(x, 0, "order near;bar town;");
        d.due("near", x.rule(2, 9), 2);
        d.due("town", x.rule(2, 10), 4);
        Due.edition(x, 0, "bar town;bar fellow;bar against;");
        d.due("all", x.rule(3, 10), 7);
    }

    @Holds(at = "Promise 12: rule", says = "11: its first day (NONE).")
    static void ruleFirstDay(Due d) {
        DutyDesk x = firstDays(0, 999);
        d.due("the first day", x.rule(0, 11), 0);
        d.due("the last day", x.rule(1, 11), 999);
        d.due("none", x.rule(Due.NONE, 11), Due.NONE);
    }

    @Holds(at = "Promise 12: rule", says = "-9 when there is none such.")
    static void ruleThatIsNot(Due d) {
        DutyDesk x = firstDays(0, 999);
        for (int e : Desks.outside(-1, 1)) {
            d.due("edition " + e, x.rule(e, 0), -9);
            d.due("first day of " + e, x.rule(e, 11), -9);
        }
        for (int what : Desks.outside(0, 11)) {
            d.due("what " + what, x.rule(0, what), -9);
            d.due("what " + what + " of NONE", x.rule(Due.NONE, what), -9);
        }
        d.due("edition 0 of none", new DutyDesk().rule(0, 0), -9);
        d.due("edition 20", Desks.fullOfEditions().rule(20, 0), -9);
        d.due("edition 19", Desks.fullOfEditions().rule(19, 1), 19);
    }
}
