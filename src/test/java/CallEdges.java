/** What a CALL is and who MAY be asked in Terms IV, and promises 17 (against), 18 (waive), 19 (call), 23 (barred). */
final class CallEdges {
    private CallEdges() {
    }

    /** A call of day 5 for panel 0 in town 0. */
    private static int comes(DutyDesk x, int ofCase, int accused) {
        return x.call(5, 0, 0, 0, -1, ofCase, accused);
    }

    @Holds(at = "Terms IV", says = "CALLS, at most 150, numbered from 0 as they come")
    static void atMost150Calls(Due d) {
        DutyDesk x = Desks.of(1, 1);
        for (int i = 0; i < 150; i++) {
            d.due("call", x.call(i, 0, 0, 0, -1, 0, 0), i);
        }
        d.due("a 151st", x.call(150, 0, 0, 0, -1, 0, 0), Due.FULL);
        d.due("the 150th is asking", x.asked(149), 0);
        d.due("and is taken", x.answer(149, true), Due.NONE);
        d.due("there is no 151st", x.asked(150), Due.RANGE);
        d.due("still full when one is taken", x.call(150, 0, 0, 0, -1, 0, 0), Due.FULL);
    }

    @Holds(at = "Terms IV", says = "(not ahead of the day of the latest one)")
    static void notAheadOfTheLatest(Due d) {
        DutyDesk x = Desks.of(1, 1);
        d.due("day 0 first", x.call(0, 1439, 0, 0, -1, 0, 0), 0);
        d.due("the same day, an earlier minute", x.call(0, 0, 0, 0, -1, 0, 0), 1);
        d.due("the next day", x.call(1, 0, 0, 0, -1, 0, 0), 2);
        d.due("a day ahead", x.call(0, 1439, 0, 0, -1, 0, 0), Due.RANGE);
        d.due("the last day", x.call(999, 0, 0, 0, -1, 0, 0), 3);
        d.due("the day ahead of it", x.call(998, 1439, 0, 0, -1, 0, 0), Due.RANGE);
        d.due("the last day again", x.call(999, 0, 0, 0, -1, 0, 0), 4);
    }

    @Holds(at = "Terms IV", says = "a minute 0 .. 1439")
    static void minutes0To1439(Due d) {
        DutyDesk x = Desks.of(1, 1);
        d.due("minute 0", x.call(0, 0, 0, 0, -1, 0, 0), 0);
        d.due("minute 1439", x.call(0, 1439, 0, 0, -1, 0, 0), 1);
        for (int minute : Desks.outside(0, 1439)) {
            d.due("minute " + minute, x.call(0, minute, 0, 0, -1, 0, 0), Due.RANGE);
        }
    }

    @Holds(at = "Terms IV", says = "a TONGUE 0 .. 7 (NONE: any)")
    static void tongues0To7OrAny(Due d) {
        DutyDesk x = new DutyDesk();
        x.enter(0, 1, 0);
        x.enter(0, 1, 129);
        d.due("any", x.call(0, 0, 0, 0, -1, 0, 0), 0);
        d.due("one without tongues", x.barred(0, 0), 0);
        d.due("tongue 0", x.call(0, 0, 0, 0, 0, 0, 0), 1);
        d.due("one without it", x.barred(1, 0), 4);
        d.due("one with it", x.barred(1, 1), 0);
        d.due("tongue 7", x.call(0, 0, 0, 0, 7, 0, 0), 2);
        d.due("one with it", x.barred(2, 1), 0);
        for (int tongue : Desks.outside(-1, 7)) {
            d.due("tongue " + tongue, x.call(0, 0, 0, 0, tongue, 0, 0), Due.RANGE);
        }
    }

    @Holds(at = "Terms IV", says = "a CASE 0 .. 99")
    static void cases0To99(Due d) {
        DutyDesk x = Desks.of(1, 1);
        d.due("case 0", x.call(0, 0, 0, 0, -1, 0, 0), 0);
        d.due("case 99", x.call(0, 0, 0, 0, -1, 99, 0), 1);
        for (int c : Desks.outside(0, 99)) {
            d.due("call of case " + c, x.call(0, 0, 0, 0, -1, c, 0), Due.RANGE);
            d.due("against in case " + c, x.against(0, c), Due.RANGE);
            d.due("waive in case " + c, x.waive(c, 0), Due.RANGE);
        }
        d.due("against in case 99", x.against(0, 99), 1);
        d.due("waive in case 99", x.waive(99, 0), 1);
    }

    @Holds(at = "Terms IV", says = "an ACCUSED 0 .. 9 of it")
    static void accused0To9(Due d) {
        DutyDesk x = Desks.of(1, 1);
        d.due("accused 0", x.call(0, 0, 0, 0, -1, 0, 0), 0);
        d.due("accused 9", x.call(0, 0, 0, 0, -1, 0, 9), 1);
        for (int accused : Desks.outside(0, 9)) {
            d.due("call of accused " + accused, x.call(0, 0, 0, 0, -1, 0, accused), Due.RANGE);
            d.due("waive for accused " + accused, x.waive(0, accused), Due.RANGE);
        }
        d.due("waive for accused 9", x.waive(0, 9), 1);
    }

    @Holds(at = "Terms IV", says = "on the PANEL, not STRUCK on the day, not AWAY")
    static void onThePanelAndThere(Due d) {
        DutyDesk x = new DutyDesk();
        x.enter(0, 1, 0);
        x.enter(0, 62, 0);
        x.strike(0, 6);
        x.away(0, 4, true);
        x.away(0, 6, true);
        comes(x, 0, 0);
        d.due("struck and away on other days", x.asked(0), 0);
        d.due("not on the panel", x.barred(0, 1), 1);
        d.due("nobody else", x.answer(0, false), Due.NONE);
        x.away(0, 5, true);
        comes(x, 0, 0);
        d.due("away", x.asked(1), Due.NONE);
        x.away(0, 5, false);
        x.strike(0, 5);
        comes(x, 0, 0);
        d.due("struck", x.asked(2), Due.NONE);
    }

    @Holds(at = "Terms IV", says = "it has the TONGUE")
    static void itHasTheTongue(Due d) {
        for (int tongue = 0; tongue <= 7; tongue++) {
            DutyDesk x = new DutyDesk();
            x.enter(0, 1, 255 - (1 << tongue));
            x.enter(0, 1, 1 << tongue);
            x.call(5, 0, 0, 0, tongue, 0, 0);
            d.due("all but this", x.barred(0, 0), 4);
            d.due("this alone", x.asked(0), 1);
            d.due("nobody else", x.answer(0, false), Due.NONE);
        }
    }

    @Holds(at = "Terms IV", says = "TRAVEL from its TOWN is told")
    static void travelIsTold(Due d) {
        DutyDesk x = new DutyDesk();
        x.enter(9, 1, 0);
        comes(x, 0, 0);
        d.due("not told", x.asked(0), Due.NONE);
        x.travel(9, 0, 0);
        comes(x, 0, 0);
        d.due("0 is told", x.asked(1), 0);
        x.travel(0, 9, 600);
        d.due("600 is told", x.barred(1, 0), 0);
        x.travel(0, 9, -1);
        d.due("told no more", x.barred(1, 0), 8);
    }

    @Holds(at = "Terms IV", says = "no bar IN FORCE on the day (as known now) holds")
    static void barsInForceOnTheDay(Due d) {
        DutyDesk x = Desks.of(1, 1);
        Due.edition(x, 6, "bar town;");
        comes(x, 0, 0);
        d.due("a text of the day behind", x.asked(0), 0);
        Due.edition(x, 5, "bar town;");
        d.due("as known now", x.barred(0, 0), 64);
        comes(x, 0, 0);
        d.due("nobody", x.asked(1), Due.NONE);
        Due.edition(x, 5, "");
        d.due("as known now", x.barred(1, 0), 0);
        x.call(6, 0, 0, 0, -1, 0, 0);
        d.due("the day behind", x.asked(2), Due.NONE);
        // What a bar would hold against is no matter without that bar.
        int[] bits = {0, 16, 32, 64, 112};
        String[] texts = {"", "bar fellow;", "bar against;", "bar town;", "bar town;bar against;bar fellow;"};
        for (int n = 0; n < texts.length; n++) {
            DutyDesk y = Desks.of(1, 1);
            comes(y, 7, 0);
            y.answer(0, true);
            comes(y, 7, 1);
            y.against(0, 7);
            Due.edition(y, 5, texts[n]);
            d.due("with '" + texts[n] + "'", y.barred(1, 0), bits[n]);
        }
    }

    private static DutyDesk withAFellow() {
        DutyDesk x = Desks.under(2, 1, "bar fellow;");
        comes(x, 99, 9);
        x.answer(0, true);
        return x;
    }

    @Holds(at = "Terms IV", says = "fellow: it has taken a CALL of that CASE for another ACCUSED, and that isn't WAIVED")
    static void fellows(Due d) {
        DutyDesk x = withAFellow();
        d.due("its own call", x.barred(0, 0), 0);
        comes(x, 99, 8);
        d.due("another accused", x.barred(1, 0), 16);
        d.due("one that took none", x.asked(1), 1);
        comes(x, 99, 9);
        d.due("the same accused", x.barred(2, 0), 0);
        comes(x, 98, 8);
        d.due("another case", x.barred(3, 0), 0);
        x.answer(1, false);
        comes(x, 99, 7);
        d.due("one that refused took none", x.barred(4, 1), 0);
        d.due("1 takes it", x.answer(4, true), Due.NONE);
        d.due("a later one's fellow", x.barred(1, 1), 16);
        x.waive(99, 9);
        d.due("waived", x.barred(1, 0), 0);
        d.due("another's is not", x.barred(1, 1), 16);
    }

    @Holds(at = "Terms IV", says = "against: it is told to be AGAINST the CASE")
    static void againstTheCase(Due d) {
        DutyDesk x = Desks.under(24, 1, "bar against;");
        x.against(0, 0);
        x.against(23, 99);
        comes(x, 0, 0);
        comes(x, 99, 0);
        d.due("0 in case 0", x.barred(0, 0), 32);
        d.due("23 in case 0", x.barred(0, 23), 0);
        d.due("0 in case 99", x.barred(1, 0), 0);
        d.due("23 in case 99", x.barred(1, 23), 32);
        Due.edition(x, 0, "bar fellow;bar town;");
        d.due("no such bar", x.barred(0, 0), 64);
    }

    @Holds(at = "Terms IV", says = "town: it is of the CALL's TOWN")
    static void ofTheCallsTown(Due d) {
        DutyDesk x = new DutyDesk();
        x.enter(0, 1, 0);
        x.enter(9, 1, 0);
        x.travel(0, 9, 0);
        Due.edition(x, 0, "bar town;");
        x.call(5, 0, 0, 0, -1, 0, 0);
        x.call(5, 0, 0, 9, -1, 0, 0);
        d.due("0 in town 0", x.barred(0, 0), 64);
        d.due("1 in town 0", x.barred(0, 1), 0);
        d.due("0 in town 9", x.barred(1, 0), 0);
        d.due("1 in town 9", x.barred(1, 1), 64);
    }

    @Holds(at = "Promise 17: against", says = "1, 0 if it was")
    static void againstOnce(Due d) {
        DutyDesk x = Desks.of(24, 1);
        d.due("23 in case 99", x.against(23, 99), 1);
        d.due("again", x.against(23, 99), 0);
        d.due("22 in case 99", x.against(22, 99), 1);
        d.due("23 in case 98", x.against(23, 98), 1);
        d.due("0 in case 0", x.against(0, 0), 1);
        d.due("again", x.against(0, 0), 0);
    }

    @Holds(at = "Promise 17: against", says = "; RANGE.")
    static void againstRefusesWhatCantBe(Due d) {
        for (int l : Desks.outside(0, 3)) {
            Desks.refused(d, "against of " + l, Desks::busy, x -> x.against(l, 5), Due.RANGE);
        }
        for (int c : Desks.outside(0, 99)) {
            Desks.refused(d, "against in " + c, Desks::busy, x -> x.against(0, c), Due.RANGE);
        }
    }

    @Holds(at = "Promise 18: waive", says = "the bar of fellows is WAIVED for an ACCUSED "
        + "(its CALLS may go to whom a fellow's went, and a fellow's to whom its went)")
    static void waivedBothWays(Due d) {
        DutyDesk x = withAFellow();
        comes(x, 99, 0);
        d.due("barred", x.barred(1, 0), 16);
        x.waive(99, 1);
        x.waive(98, 0);
        x.waive(98, 9);
        d.due("others are waived", x.barred(1, 0), 16);
        x.waive(99, 0);
        d.due("its calls may go to whom a fellow's went", x.barred(1, 0), 0);
        DutyDesk y = withAFellow();
        comes(y, 99, 0);
        y.waive(99, 9);
        d.due("a fellow's to whom its went", y.barred(1, 0), 0);
    }

    @Holds(at = "Promise 18: waive", says = "1, 0 if it was")
    static void waivedOnce(Due d) {
        DutyDesk x = new DutyDesk();
        d.due("case 99, accused 9", x.waive(99, 9), 1);
        d.due("again", x.waive(99, 9), 0);
        d.due("case 99, accused 0", x.waive(99, 0), 1);
        d.due("case 0, accused 9", x.waive(0, 9), 1);
        d.due("again", x.waive(0, 9), 0);
    }

    @Holds(at = "Promise 18: waive", says = "; RANGE.")
    static void waiveRefusesWhatCantBe(Due d) {
        for (int c : Desks.outside(0, 99)) {
            Desks.refused(d, "waive in " + c, Desks::busy, x -> x.waive(c, 0), Due.RANGE);
        }
        for (int accused : Desks.outside(0, 9)) {
            Desks.refused(d, "waive for " + accused, Desks::busy, x -> x.waive(7, accused), Due.RANGE);
        }
    }

    @Holds(at = "Promise 19: call", says = "RANGE: no such, or a day ahead of the latest CALL's")
    static void callRefusesWhatCantBe(Due d) {
        for (int n : Desks.outside(0, 999)) {
            Desks.refused(d, "day " + n, Desks::busy, x -> x.call(n, 0, 0, 0, -1, 0, 0), Due.RANGE);
        }
        for (int n : Desks.outside(0, 1439)) {
            Desks.refused(d, "minute " + n, Desks::busy, x -> x.call(20, n, 0, 0, -1, 0, 0), Due.RANGE);
        }
        for (int n : Desks.outside(0, 5)) {
            Desks.refused(d, "panel " + n, Desks::busy, x -> x.call(20, 0, n, 0, -1, 0, 0), Due.RANGE);
        }
        for (int n : Desks.outside(0, 9)) {
            Desks.refused(d, "town " + n, Desks::busy, x -> x.call(20, 0, 0, n, -1, 0, 0), Due.RANGE);
            Desks.refused(d, "accused " + n, Desks::busy, x -> x.call(20, 0, 0, 0, -1, 0, n), Due.RANGE);
        }
        for (int n : Desks.outside(-1, 7)) {
            Desks.refused(d, "tongue " + n, Desks::busy, x -> x.call(20, 0, 0, 0, n, 0, 0), Due.RANGE);
        }
        for (int n : Desks.outside(0, 99)) {
            Desks.refused(d, "case " + n, Desks::busy, x -> x.call(20, 0, 0, 0, -1, n, 0), Due.RANGE);
        }
        Desks.refused(d, "a day ahead", Desks::busy, x -> x.call(12, 0, 0, 0, -1, 0, 0), Due.RANGE);
        d.due("the latest one's day", Desks.busy().call(13, 0, 0, 0, -1, 0, 0), 4);
    }

    @Holds(at = "Promise 19: call", says = "or a day ahead of the latest CALL's")
    static void aRefusedCallIsNotTheLatest(Due d) {
        DutyDesk x = Desks.of(1, 1);
        comes(x, 0, 0);
        d.due("refused", x.call(900, 1440, 0, 0, -1, 0, 0), Due.RANGE);
        d.due("the next has number 1", comes(x, 0, 0), 1);
        DutyDesk y = Desks.fullOfCalls();
        d.due("no room", y.call(900, 0, 0, 0, -1, 0, 0), Due.FULL);
        d.due("a day ahead", y.call(2, 0, 0, 0, -1, 0, 0), Due.RANGE);
        d.due("the latest one's day", y.call(3, 0, 0, 0, -1, 0, 0), Due.FULL);
    }

    @Holds(at = "Promise 19: call", says = "FULL.")
    static void callIsFullWith150(Due d) {
        Desks.refused(d, "a 151st", Desks::fullOfCalls, x -> x.call(3, 0, 0, 0, -1, 0, 0), Due.FULL);
        Desks.refused(d, "a 151st of the last day", Desks::fullOfCalls, x -> x.call(999, 0, 0, 0, -1, 0, 0), Due.FULL);
        d.due("a 151st that can't be", Desks.fullOfCalls().call(3, 0, 0, 0, 8, 0, 0), Due.RANGE);
    }

    @Holds(at = "Promise 23: barred", says = "Why a LAWYER may not be asked in a CALL (as things are now), bits: 1 not on the PANEL, "
        + "2 STRUCK or AWAY, 4 the TONGUE, 8 no TRAVEL told, 16 fellow, 32 against, 64 town")
    static void allBits(Due d) {
        DutyDesk x = new DutyDesk();
        x.enter(1, 1, 1);
        x.enter(0, 2, 0);
        x.travel(0, 1, 5);
        Due.edition(x, 0, "bar fellow;bar against;bar town;");
        x.call(5, 0, 0, 0, 0, 7, 0);
        d.due("none", x.barred(0, 0), 0);
        d.due("panel, tongue, town", x.barred(0, 1), 1 + 4 + 64);
        x.answer(0, true);
        x.call(5, 0, 1, 0, 1, 7, 1);
        x.against(0, 7);
        x.strike(0, 5);
        x.away(0, 5, true);
        x.travel(0, 1, -1);
        d.due("all but town, which has travel", x.barred(1, 0), 1 + 2 + 4 + 8 + 16 + 32);
        x.call(5, 0, 1, 1, 1, 7, 1);
        d.due("all but travel", x.barred(2, 0), 1 + 2 + 4 + 16 + 32 + 64);
        d.due("as things are now, though it took it", x.barred(0, 0), 2 + 8 + 32);
    }

    @Holds(at = "Promise 23: barred", says = "; RANGE.")
    static void barredRange(Due d) {
        for (int i : Desks.outside(0, 3)) {
            d.due("call " + i, Desks.busy().barred(i, 0), Due.RANGE);
        }
        for (int l : Desks.outside(0, 3)) {
            d.due("lawyer " + l, Desks.busy().barred(0, l), Due.RANGE);
        }
        d.due("without calls", Desks.of(1, 1).barred(0, 0), Due.RANGE);
    }
}
