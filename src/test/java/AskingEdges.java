/** Who is ASKED, and when one is LATE, in Terms IV, and promises 20 (asked), 21 (answer), 22 (told). */
final class AskingEdges {
    private AskingEdges() {
    }

    /** All refuse, in this order, and then it is OPEN. */
    private static void asks(Due d, DutyDesk x, int i, int... want) {
        d.due("asked(" + i + ")", x.asked(i), want[0]);
        for (int n = 1; n < want.length; n++) {
            d.due("answer(" + i + "), " + n, x.answer(i, false), want[n]);
        }
        d.due("answer(" + i + "), the last", x.answer(i, false), Due.NONE);
        d.due("state of " + i, x.told(i, 0), 2);
    }

    private static void takenBy(DutyDesk x, int i, int l) {
        for (int n = 0; n < 24 && x.asked(i) != l; n++) {
            x.answer(i, false);
        }
        x.answer(i, true);
    }

    @Holds(at = "Terms IV", says = "They are ASKED one by one, each once")
    static void eachOnce(Due d) {
        DutyDesk x = Desks.of(3, 1);
        x.duty(0, 5, 2);
        x.call(5, 0, 0, 0, -1, 0, 0);
        takenBy(x, 0, 1);
        // 1 took the earlier one, 2 has DUTY, and each stays so when it has refused.
        x.call(5, 0, 0, 0, -1, 0, 0);
        asks(d, x, 1, 1, 2, 0);
        d.due("refused", x.told(1, 1), 3);
        DutyDesk y = Desks.of(24, 1);
        y.call(5, 0, 0, 0, -1, 0, 0);
        asks(d, y, 0, 0, 1, 2, 3, 4, 5, 6, 7, 8, 9, 10, 11, 12, 13, 14, 15, 16, 17, 18, 19, 20, 21, 22, 23);
        d.due("refused", y.told(0, 1), 24);
    }

    @Holds(at = "Terms IV", says = "who has taken an earlier CALL for that ACCUSED of that CASE (the latest such)")
    static void whoTookTheLatestEarlierOne(Due d) {
        DutyDesk x = Desks.of(4, 1);
        for (int i = 0; i < 3; i++) {
            x.call(5, 0, 0, 0, -1, 7, 3);
        }
        takenBy(x, 0, 3);
        takenBy(x, 2, 1);
        // A later one that was taken first is no earlier one.
        d.due("1 is asked: 0 was, when none was taken yet", x.answer(1, false), 3);
        x.call(5, 0, 0, 0, -1, 7, 3);
        asks(d, x, 3, 1, 0, 2, 3);
        x.call(5, 0, 0, 0, -1, 7, 4);
        d.due("another accused", x.asked(4), 0);
        x.call(5, 0, 0, 0, -1, 6, 3);
        d.due("another case", x.asked(5), 0);
        x.away(1, 5, true);
        x.call(5, 0, 0, 0, -1, 7, 3);
        d.due("when the latest such may not", x.asked(6), 0);
        DutyDesk y = Desks.of(3, 1);
        y.call(5, 0, 0, 0, -1, 7, 3);
        y.call(5, 0, 0, 0, -1, 7, 3);
        takenBy(y, 1, 2);
        d.due("a later one alone is taken", y.answer(0, false), 1);
    }

    @Holds(at = "Terms IV", says = "then who has DUTY")
    static void thenWhoHasDuty(Due d) {
        DutyDesk x = Desks.of(3, 3);
        x.duty(0, 5, 2);
        x.duty(1, 5, 1);
        x.call(5, 0, 0, 0, -1, 0, 0);
        asks(d, x, 0, 2, 0, 1);
        x.call(5, 0, 1, 0, -1, 0, 1);
        asks(d, x, 1, 1, 0, 2);
        x.call(6, 0, 0, 0, -1, 0, 2);
        d.due("on a night of none", x.asked(2), 0);
        DutyDesk y = Desks.of(2, 1);
        y.duty(0, 999, 1);
        y.away(1, 999, true);
        y.call(999, 0, 0, 0, -1, 0, 0);
        d.due("who has it is away", y.asked(0), 0);
    }

    @Holds(at = "Terms IV", says = "nights: by how many DUTIES it has up to this day")
    static void nightsUpToThisDay(Due d) {
        DutyDesk x = Desks.of(3, 3);
        x.duty(1, 5, 0);
        x.duty(1, 6, 1);
        x.duty(1, 8, 1);
        x.duty(1, 0, 2);
        x.duty(1, 2, 2);
        x.call(4, 0, 0, 0, -1, 0, 0);
        asks(d, x, 0, 0, 1, 2);
        x.call(5, 0, 0, 0, -1, 0, 0);
        asks(d, x, 1, 1, 0, 2);
        x.call(8, 0, 0, 0, -1, 0, 0);
        asks(d, x, 2, 0, 1, 2);
        x.duty(1, 999, 0);
        x.duty(1, 997, 0);
        x.call(999, 0, 0, 0, -1, 0, 0);
        asks(d, x, 3, 1, 2, 0);
        DutyDesk y = Desks.of(24, 3);
        for (int l = 0; l < 23; l++) {
            y.duty(1, l, l);
        }
        y.call(22, 0, 0, 0, -1, 0, 0);
        d.due("the last one alone has none", y.asked(0), 23);
    }

    @Holds(at = "Terms IV", says = "calls: how many CALLS it has taken")
    static void byCalls(Due d) {
        DutyDesk x = Desks.under(3, 1, "order calls;");
        for (int i = 0; i < 3; i++) {
            x.call(5, 0, 0, 0, -1, i, 0);
        }
        takenBy(x, 0, 0);
        takenBy(x, 1, 0);
        takenBy(x, 2, 1);
        x.call(5, 0, 0, 0, -1, 9, 0);
        asks(d, x, 3, 2, 1, 0);
    }

    @Holds(at = "Terms IV", says = "near: minutes of TRAVEL")
    static void byTravel(Due d) {
        DutyDesk x = new DutyDesk();
        for (int town = 0; town < 4; town++) {
            x.enter(town, 1, 0);
        }
        Due.edition(x, 0, "order near;");
        x.travel(0, 1, 600);
        x.travel(0, 2, 0);
        x.travel(0, 3, 9);
        x.call(5, 0, 0, 0, -1, 0, 0);
        asks(d, x, 0, 2, 3, 0, 1);
    }

    @Holds(at = "Terms IV", says = "the least first, of as many the lesser number")
    static void ofAsManyTheLesser(Due d) {
        for (String order : new String[] {"nights", "calls", "near"}) {
            DutyDesk x = Desks.under(3, 1, "order " + order + ";");
            x.call(5, 0, 0, 0, -1, 0, 0);
            asks(d, x, 0, 0, 1, 2);
        }
        DutyDesk y = Desks.of(4, 3);
        y.duty(1, 0, 0);
        y.duty(1, 2, 2);
        y.call(5, 0, 0, 0, -1, 0, 0);
        asks(d, y, 0, 1, 3, 0, 2);
    }

    @Holds(at = "Terms IV", says = "of those that MAY when one is to be asked.")
    static void ofThoseThatMayThen(Due d) {
        DutyDesk x = Desks.of(4, 1);
        x.away(1, 5, true);
        x.call(5, 0, 0, 0, -1, 0, 0);
        x.away(0, 5, true);
        d.due("who is asked stays so", x.asked(0), 0);
        x.away(1, 5, false);
        x.away(2, 5, true);
        d.due("1 may now", x.answer(0, false), 1);
        d.due("2 may not", x.answer(0, false), 3);
        x.away(2, 5, false);
        x.away(0, 5, false);
        x.enter(0, 1, 0);
        d.due("2 may again", x.answer(0, false), 2);
        d.due("one that came later", x.answer(0, false), 4);
        x.strike(4, 0);
        d.due("and takes it, though struck", x.answer(0, true), Due.NONE);
        d.due("4 took it", x.told(0, 2), 4);
    }

    @Holds(at = "Terms IV", says = "0 ASKING, 1 TAKEN, 2 OPEN (nobody is left to ask).")
    static void openWhenNobodyIsLeft(Due d) {
        DutyDesk x = new DutyDesk();
        x.call(5, 0, 0, 0, -1, 0, 0);
        d.due("without lawyers", x.told(0, 0), 2);
        x.enter(0, 1, 0);
        d.due("it stays open", x.told(0, 0), 2);
        d.due("nobody is asked", x.asked(0), Due.NONE);
        x.call(5, 0, 0, 0, -1, 0, 0);
        d.due("asking", x.told(1, 0), 0);
        x.answer(1, false);
        d.due("open", x.told(1, 0), 2);
        x.call(5, 0, 0, 0, -1, 0, 0);
        x.answer(2, true);
        d.due("taken", x.told(2, 0), 1);
    }

    @Holds(at = "Terms IV", says = "Who takes it is there at the CALL's minute and ask (as IN FORCE) for each that refused and TRAVEL")
    static void askForEachThatRefused(Due d) {
        int[] asks = {0, 10, 9999};
        for (int ask : asks) {
            for (int refuse = 0; refuse < 24; refuse += 23) {
                DutyDesk x = Desks.under(24, 1, "ask " + ask + ";");
                x.call(5, 1439, 0, 0, -1, 0, 0);
                takenBy(x, 0, refuse);
                d.due(refuse + " refused, ask " + ask, x.told(0, 3), refuse * ask + 10);
            }
        }
        DutyDesk y = Desks.of(2, 1);
        Due.edition(y, 6, "ask 7;");
        y.call(5, 0, 0, 0, -1, 0, 0);
        y.answer(0, false);
        Due.edition(y, 5, "ask 3;");
        y.answer(0, true);
        d.due("as it is in force when it is taken", y.told(0, 3), 13);
    }

    @Holds(at = "Terms IV", says = "at the CALL's minute")
    static void midnightIsNoEdge(Due d) {
        for (int minute = 0; minute <= 1439; minute += 1439) {
            DutyDesk x = new DutyDesk();
            x.enter(1, 1, 0);
            x.travel(0, 1, 600);
            x.call(999, minute, 0, 0, -1, 0, 0);
            x.answer(0, true);
            d.due("minutes behind " + minute, x.told(0, 3), 600);
            d.due("late", x.told(0, 4), 1);
        }
    }

    @Holds(at = "Terms IV", says = "(0, if that is told no more)")
    static void travelToldNoMore(Due d) {
        DutyDesk x = new DutyDesk();
        x.enter(1, 1, 0);
        x.travel(0, 1, 50);
        x.call(5, 0, 0, 0, -1, 0, 0);
        x.travel(0, 1, -1);
        d.due("it is still asked", x.asked(0), 0);
        d.due("and takes it", x.answer(0, true), Due.NONE);
        d.due("minutes", x.told(0, 3), 0);
        d.due("not late", x.told(0, 4), 0);
        d.due("no travel to pay", x.line(0, 0, 2), 0);
    }

    @Holds(at = "Terms IV", says = "LATE if that is more than reach behind the CALL's minute.")
    static void lateIfMoreThanReach(Due d) {
        int[] travel = {45, 46, 0, 1, 600};
        String[] texts = {"", "", "reach 0;", "reach 0;", "reach 9999;"};
        int[] late = {0, 1, 0, 1, 0};
        for (int n = 0; n < travel.length; n++) {
            DutyDesk x = new DutyDesk();
            x.enter(1, 1, 0);
            x.travel(0, 1, travel[n]);
            Due.edition(x, 0, texts[n]);
            x.call(5, 0, 0, 0, -1, 0, 0);
            x.answer(0, true);
            d.due("late with " + travel[n] + " and '" + texts[n] + "'", x.told(0, 4), late[n]);
        }
    }

    @Holds(at = "Promise 20: asked", says = "NONE: it isn't ASKING")
    static void askedWhenNotAsking(Due d) {
        d.due("taken", Desks.busy().asked(0), Due.NONE);
        d.due("open", Desks.busy().asked(2), Due.NONE);
        d.due("asking", Desks.busy().asked(3), 3);
    }

    @Holds(at = "Promise 20: asked", says = "; RANGE.")
    static void askedRange(Due d) {
        for (int i : Desks.outside(0, 3)) {
            d.due("asked(" + i + ")", Desks.busy().asked(i), Due.RANGE);
        }
        d.due("without calls", new DutyDesk().asked(0), Due.RANGE);
        d.due("the 150th", Desks.fullOfCalls().asked(149), 0);
        d.due("a 151st", Desks.fullOfCalls().asked(150), Due.RANGE);
    }

    @Holds(at = "Promise 21: answer", says = "Who is ASKED takes it, or refuses: who is ASKED next (NONE: it is TAKEN, or OPEN)")
    static void whoIsAskedNext(Due d) {
        DutyDesk x = Desks.of(2, 1);
        x.call(5, 0, 0, 0, -1, 0, 0);
        d.due("0 refuses", x.answer(0, false), 1);
        d.due("asked", x.asked(0), 1);
        d.due("1 takes it", x.answer(0, true), Due.NONE);
        d.due("taken", x.told(0, 0), 1);
        x.call(5, 0, 0, 0, -1, 1, 0);
        x.answer(1, false);
        d.due("1 refuses", x.answer(1, false), Due.NONE);
        d.due("open", x.told(1, 0), 2);
    }

    @Holds(at = "Promise 21: answer", says = "RANGE")
    static void answerRefusesWhatCantBe(Due d) {
        for (int i : Desks.outside(0, 3)) {
            Desks.refused(d, "answer(" + i + ", true)", Desks::busy, x -> x.answer(i, true), Due.RANGE);
            Desks.refused(d, "answer(" + i + ", false)", Desks::busy, x -> x.answer(i, false), Due.RANGE);
        }
        d.due("without calls", new DutyDesk().answer(0, true), Due.RANGE);
    }

    @Holds(at = "Promise 21: answer", says = "STATE: it isn't ASKING.")
    static void answerWhenNotAsking(Due d) {
        Desks.refused(d, "takes what is taken", Desks::busy, x -> x.answer(0, true), Due.STATE);
        Desks.refused(d, "refuses what is taken", Desks::busy, x -> x.answer(1, false), Due.STATE);
        Desks.refused(d, "takes what is open", Desks::busy, x -> x.answer(2, true), Due.STATE);
        Desks.refused(d, "refuses what is open", Desks::busy, x -> x.answer(2, false), Due.STATE);
    }

    @Holds(at = "Promise 22: told", says = "what 0: its state, 1: how many refused")
    static void toldHowManyRefused(Due d) {
        DutyDesk x = Desks.of(24, 1);
        x.call(5, 0, 0, 0, -1, 0, 0);
        for (int n = 0; n < 24; n++) {
            d.due("state", x.told(0, 0), 0);
            d.due("refused", x.told(0, 1), n);
            x.answer(0, false);
        }
        d.due("state", x.told(0, 0), 2);
        d.due("refused", x.told(0, 1), 24);
        d.due("nobody refused, as there is nobody", told(new DutyDesk(), 1), 0);
    }

    private static int told(DutyDesk x, int what) {
        x.call(5, 0, 0, 0, -1, 0, 0);
        return x.told(0, what);
    }

    @Holds(at = "Promise 22: told", says = "2: who took it (NONE), 3: the minutes behind its own at which that one is there (NONE)")
    static void toldWhoTookItAndWhen(Due d) {
        d.due("who, when asking", told(Desks.of(1, 1), 2), Due.NONE);
        d.due("who, when open", told(Desks.of(1, 2), 2), Due.NONE);
        d.due("minutes, when asking", told(Desks.of(1, 1), 3), Due.NONE);
        d.due("minutes, when open", told(Desks.of(1, 2), 3), Due.NONE);
        DutyDesk x = Desks.taken(Desks.of(1, 1), 5);
        d.due("who", x.told(0, 2), 0);
        d.due("minutes", x.told(0, 3), 10);
        Due.edition(x, 0, "ask 99;");
        d.due("minutes stay", x.told(0, 3), 10);
    }

    @Holds(at = "Promise 22: told", says = "4: 1 if it is LATE as known now, else 0 (NONE when not TAKEN)")
    static void toldLateAsKnownNow(Due d) {
        d.due("when asking", told(Desks.of(1, 1), 4), Due.NONE);
        d.due("when open", told(Desks.of(1, 2), 4), Due.NONE);
        DutyDesk x = Desks.taken(Desks.of(1, 1), 5);
        d.due("10 of 45", x.told(0, 4), 0);
        Due.edition(x, 5, "reach 9;");
        d.due("10 of 9", x.told(0, 4), 1);
        Due.edition(x, 6, "reach 45;");
        d.due("a text of a later day", x.told(0, 4), 1);
        Due.edition(x, 5, "reach 10;");
        d.due("10 of 10", x.told(0, 4), 0);
    }

    @Holds(at = "Promise 22: told", says = "5: 1 if it was DUTY, else 0 (NONE).")
    static void toldWhetherItWasDuty(Due d) {
        d.due("when asking", told(Desks.of(1, 1), 5), Due.NONE);
        d.due("when open", told(Desks.of(1, 2), 5), Due.NONE);
        DutyDesk x = Desks.of(2, 3);
        x.duty(0, 5, 0);
        x.duty(1, 5, 1);
        x.call(5, 0, 0, 0, -1, 0, 0);
        x.call(5, 0, 0, 0, -1, 1, 0);
        takenBy(x, 0, 0);
        takenBy(x, 1, 1);
        d.due("duty", x.told(0, 5), 1);
        d.due("duty of another panel", x.told(1, 5), 0);
        x.duty(0, 5, -1);
        x.duty(1, 5, -1);
        x.duty(0, 5, 1);
        d.due("it was, then", x.told(0, 5), 1);
        d.due("it was not, then", x.told(1, 5), 0);
        x.call(6, 0, 0, 0, -1, 2, 0);
        x.answer(2, true);
        d.due("on a night of none", x.told(2, 5), 0);
    }

    @Holds(at = "Promise 22: told", says = "-9 when there is none such.")
    static void toldThatIsNot(Due d) {
        for (int i : Desks.outside(0, 3)) {
            d.due("call " + i, Desks.busy().told(i, 0), -9);
        }
        for (int what : Desks.outside(0, 5)) {
            for (int i = 0; i < 4; i++) {
                d.due("what " + what + " of " + i, Desks.busy().told(i, what), -9);
            }
        }
        d.due("without calls", new DutyDesk().told(0, 0), -9);
    }
}
