/** Terms V, and promises 24 (claim), 25 (line), 26 (pay), 27 (paid), 28 (count). */
final class ClaimEdges {
    private ClaimEdges() {
    }

    private static void lines(Due d, DutyDesk x, int k, int... want) {
        for (int n = 0; n < want.length; n++) {
            d.due("line(0, " + k + ", " + n + ")", x.line(0, k, n), want[n]);
        }
    }

    /** A call that a lawyer takes by DUTY, so many minutes from its town. */
    private static DutyDesk farCall(int minutes) {
        DutyDesk x = new DutyDesk();
        x.enter(1, 1, 0);
        x.travel(0, 1, minutes);
        x.duty(0, 5, 0);
        return Desks.taken(x, 5);
    }

    @Holds(at = "Terms V", says = "CLAIMS of a TAKEN CALL as KNOWN with k EDITIONS, lines by the text IN FORCE on its day so")
    static void asKnownWithK(Due d) {
        DutyDesk x = farCall(10);
        Due.edition(x, 5, "call 1;");
        Due.edition(x, 6, "call 2;");
        Due.edition(x, 4, "call 3;");
        Due.edition(x, 5, "call 4;");
        int[] calls = {60, 1, 1, 1, 4};
        for (int k = 0; k < calls.length; k++) {
            d.due("line 1 with " + k, x.line(0, k, 1), calls[k]);
            d.due("claim with " + k, x.claim(0, k), 100 + calls[k] + 20);
        }
    }

    @Holds(at = "Terms V", says = "0 night, if it was DUTY of the one who took it, then (when it was taken)")
    static void nightIfItWasDutyThen(Due d) {
        DutyDesk x = farCall(10);
        x.duty(0, 5, -1);
        d.due("duty then, none now", x.line(0, 0, 0), 100);
        DutyDesk y = Desks.taken(Desks.of(1, 1), 5);
        y.duty(0, 5, 0);
        d.due("none then, duty now", y.line(0, 0, 0), 0);
        Due.edition(x, 0, "night 0;");
        d.due("night 0", x.line(0, 1, 0), 0);
        Due.edition(x, 0, "night 9999;");
        d.due("night 9999", x.line(0, 2, 0), 9999);
    }

    @Holds(at = "Terms V", says = "1 call; 2 minute times TRAVEL there and back (as it was then)")
    static void travelThereAndBack(Due d) {
        int[] travel = {0, 1, 600};
        for (int minutes : travel) {
            DutyDesk x = farCall(minutes);
            x.travel(0, 1, 77);
            d.due("call", x.line(0, 0, 1), 60);
            d.due("minute 1, travel " + minutes, x.line(0, 0, 2), 2 * minutes);
            Due.edition(x, 0, "call 0;minute 9999;");
            d.due("call 0", x.line(0, 1, 1), 0);
            d.due("minute 9999, travel " + minutes, x.line(0, 1, 2), 2 * 9999 * minutes);
            Due.edition(x, 0, "minute 0;");
            d.due("minute 0, travel " + minutes, x.line(0, 2, 2), 0);
        }
    }

    @Holds(at = "Terms V", says = "3 less late, if it is LATE by that text (its minutes stay as they were)")
    static void lessLateByThatText(Due d) {
        DutyDesk x = farCall(46);
        Due.edition(x, 0, "reach 46;");
        Due.edition(x, 0, "reach 45;late 9999;ask 0;");
        Due.edition(x, 0, "reach 0;late 0;");
        x.travel(0, 1, 0);
        d.due("46 of 45", x.line(0, 0, 3), -20);
        d.due("46 of 46", x.line(0, 1, 3), 0);
        d.due("46 of 45, late 9999", x.line(0, 2, 3), -9999);
        d.due("46 of 0, late 0", x.line(0, 3, 3), 0);
        // What is asked later of each that refused does not make it later.
        DutyDesk y = Desks.of(2, 1);
        y.call(5, 0, 0, 0, -1, 0, 0);
        y.answer(0, false);
        y.answer(0, true);
        Due.edition(y, 0, "ask 9999;");
        d.due("20 of 45", y.line(0, 1, 3), 0);
    }

    @Holds(at = "Terms V", says = "4 less what the sum of these is above cap.")
    static void lessWhatIsAboveCap(Due d) {
        DutyDesk x = farCall(50);
        // 100, 60, 100 and 20 less: 240.
        Due.edition(x, 0, "cap 241;");
        Due.edition(x, 0, "cap 240;");
        Due.edition(x, 0, "cap 239;");
        Due.edition(x, 0, "cap 0;");
        int[] above = {0, 0, 0, -1, -240};
        int[] claims = {240, 240, 240, 239, 0};
        for (int k = 0; k < above.length; k++) {
            lines(d, x, k, 100, 60, 100, -20, above[k]);
            d.due("claim with " + k, x.claim(0, k), claims[k]);
        }
        DutyDesk y = farCall(600);
        Due.edition(y, 0, "night 9999;call 9999;minute 9999;late 9999;cap 9999;reach 0;");
        lines(d, y, 1, 9999, 9999, 11998800, -9999, -11998800);
        d.due("the greatest claim", y.claim(0, 1), 9999);
    }

    @Holds(at = "Terms V", says = "None below 0 together.")
    static void noneBelow0(Due d) {
        DutyDesk x = Desks.taken(Desks.of(1, 1), 5);
        Due.edition(x, 0, "reach 9;late 79;");
        Due.edition(x, 0, "reach 9;late 80;");
        Due.edition(x, 0, "reach 9;late 81;");
        Due.edition(x, 0, "reach 0;late 9999;call 0;minute 0;cap 0;");
        int[] claims = {80, 1, 0, 0, 0};
        for (int k = 0; k < claims.length; k++) {
            d.due("claim with " + k, x.claim(0, k), claims[k]);
        }
        lines(d, x, 3, 0, 60, 20, -81, 0);
        lines(d, x, 4, 0, 0, 0, -9999, 0);
        d.due("nothing is to be paid", x.pay(0), 0);
    }

    @Holds(at = "Promise 24: claim", says = "NONE: it isn't TAKEN")
    static void claimWhenNotTaken(Due d) {
        d.due("open", Desks.busy().claim(2, 2), Due.NONE);
        d.due("asking", Desks.busy().claim(3, 0), Due.NONE);
    }

    @Holds(at = "Promise 24: claim", says = "RANGE: no such CALL, k.")
    static void claimRange(Due d) {
        for (int i : Desks.outside(0, 3)) {
            d.due("call " + i, Desks.busy().claim(i, 0), Due.RANGE);
        }
        for (int k : Desks.outside(0, 2)) {
            d.due("k " + k, Desks.busy().claim(0, k), Due.RANGE);
            d.due("k " + k + " when not taken", Desks.busy().claim(3, k), Due.RANGE);
        }
        d.due("k 0", Desks.busy().claim(1, 0), 120);
        d.due("k 2", Desks.busy().claim(1, 2), 120);
        d.due("without calls", new DutyDesk().claim(0, 0), Due.RANGE);
    }

    @Holds(at = "Promise 25: line", says = "Line 0 .. 4 of it (what is taken off below 0)")
    static void lines0To4(Due d) {
        DutyDesk x = farCall(600);
        lines(d, x, 0, 100, 60, 1200, -20, -940);
        d.due("claim", x.claim(0, 0), 400);
    }

    @Holds(at = "Promise 25: line", says = "NONE: none such, not TAKEN")
    static void lineThatIsNot(Due d) {
        for (int line : Desks.outside(0, 4)) {
            d.due("line " + line, Desks.busy().line(0, 0, line), Due.NONE);
        }
        for (int line = 0; line <= 4; line++) {
            d.due("line " + line + " when open", Desks.busy().line(2, 0, line), Due.NONE);
            d.due("line " + line + " when asking", Desks.busy().line(3, 0, line), Due.NONE);
        }
    }

    @Holds(at = "Promise 25: line", says = "RANGE likewise.")
    static void lineRange(Due d) {
        for (int i : Desks.outside(0, 3)) {
            d.due("call " + i, Desks.busy().line(i, 0, 0), Due.RANGE);
        }
        for (int k : Desks.outside(0, 2)) {
            d.due("k " + k, Desks.busy().line(0, k, 0), Due.RANGE);
            d.due("k " + k + " when not taken", Desks.busy().line(3, k, 0), Due.RANGE);
            d.due("k " + k + " of line 5", Desks.busy().line(0, k, 5), Due.RANGE);
        }
        d.due("k 2", Desks.busy().line(1, 2, 1), 60);
    }

    @Holds(at = "Promise 26: pay", says = "A TAKEN CALL's CLAIM as known now is paid, as far as it wasn't: "
        + "the difference to what was paid (it may be below 0)")
    static void payTheDifference(Due d) {
        DutyDesk x = Desks.taken(Desks.of(1, 1), 5);
        d.due("all", x.pay(0), 80);
        d.due("nothing more", x.pay(0), 0);
        Due.edition(x, 5, "call 9999;cap 9999;");
        d.due("more", x.pay(0), 9919);
        Due.edition(x, 5, "cap 0;");
        d.due("all of it back", x.pay(0), -9999);
        d.due("nothing more", x.pay(0), 0);
        d.due("paid", x.paid(0), 0);
        Due.edition(x, 6, "cap 9;");
        d.due("a text of a later day", x.pay(0), 0);
    }

    @Holds(at = "Promise 26: pay", says = "RANGE")
    static void payRefusesWhatCantBe(Due d) {
        for (int i : Desks.outside(0, 3)) {
            Desks.refused(d, "pay(" + i + ")", Desks::busy, x -> x.pay(i), Due.RANGE);
        }
        d.due("without calls", new DutyDesk().pay(0), Due.RANGE);
    }

    @Holds(at = "Promise 26: pay", says = "STATE: it isn't TAKEN.")
    static void payWhenNotTaken(Due d) {
        Desks.refused(d, "open", Desks::busy, x -> x.pay(2), Due.STATE);
        Desks.refused(d, "asking", Desks::busy, x -> x.pay(3), Due.STATE);
        DutyDesk x = Desks.busy();
        x.pay(3);
        x.answer(3, true);
        d.due("when it is taken then", x.pay(3), x.claim(3, 2));
    }

    @Holds(at = "Promise 27: paid", says = "What was paid for all CALLS that a LAWYER took")
    static void paidForAllCalls(Due d) {
        DutyDesk x = Desks.of(2, 1);
        d.due("took none", x.paid(0), 0);
        for (int i = 0; i < 150; i++) {
            x.call(5, 0, 0, 0, -1, i % 100, 0);
        }
        x.answer(0, true);
        d.due("took one that is not paid", x.paid(0), 0);
        for (int i = 1; i < 149; i++) {
            x.answer(i, true);
            x.pay(i);
        }
        x.answer(149, false);
        x.answer(149, true);
        x.pay(149);
        d.due("148 of 80", x.paid(0), 148 * 80);
        d.due("the last one", x.paid(1), 80);
        x.pay(0);
        d.due("and the first", x.paid(0), 149 * 80);
    }

    @Holds(at = "Promise 27: paid", says = "; RANGE.")
    static void paidRange(Due d) {
        for (int l : Desks.outside(0, 3)) {
            d.due("paid(" + l + ")", Desks.busy().paid(l), Due.RANGE);
        }
        d.due("of none", new DutyDesk().paid(0), Due.RANGE);
        d.due("the 24th", Desks.fullOfLawyers().paid(23), 0);
        d.due("a 25th", Desks.fullOfLawyers().paid(24), Due.RANGE);
    }

    @Holds(at = "Promise 28: count", says = "What 0: LAWYERS, 1: EDITIONS, 2: CALLS, 3: DUTIES of all, 4: bytes of THE TAPE, "
        + "5: CALLS that are ASKING, 6: TAKEN, 7: OPEN.")
    static void countsFromNoneToAll(Due d) {
        int[] busy = {4, 2, 4, 8, 9, 1, 2, 1};
        for (int what = 0; what < busy.length; what++) {
            d.due("count(" + what + ") of a new one", new DutyDesk().count(what), 0);
            d.due("count(" + what + ") of a busy one", Desks.busy().count(what), busy[what]);
        }
        d.due("all lawyers", Desks.fullOfLawyers().count(0), 24);
        d.due("all editions", Desks.fullOfEditions().count(1), 20);
        d.due("all calls", Desks.fullOfCalls().count(2), 150);
        d.due("all asking", Desks.fullOfCalls().count(5), 150);
    }

    @Holds(at = "Promise 28: count", says = "NONE for others.")
    static void countOfOthers(Due d) {
        for (int what : Desks.outside(0, 7)) {
            d.due("count(" + what + ")", Desks.busy().count(what), Due.NONE);
        }
    }
}
