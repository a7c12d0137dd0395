/** The edges of the object as a whole: how long it is used, its constants, a new one. */
final class DeskEdges {
    private DeskEdges() {
    }

    @Holds(at = "What it is", says = "An object is used for at most 512 calls after it has been made")
    static void the512thCallAnswers(Due d) {
        DutyDesk x = Desks.under(24, 63, "rest 0;most 30;");
        int calls = 24 + 4;
        for (int p = 0; p < 6; p++) {
            for (int n = 0; n < 80; n++) {
                d.due("plan", x.plan(p, 4 * n, 4), 0);
                calls++;
            }
        }
        for (; calls < 511; calls++) {
            d.due("feed", x.feed(0, 0, 0, 0, 0), 20 * (calls - 507));
        }
        d.due("the 512th call", x.count(3), 6 * 80 * 4);
    }

    @Holds(at = "The constants", says = "`NONE = -1`: There is none.")
    static void none(Due d) {
        d.due("NONE", DutyDesk.NONE, -1);
        d.due("nobody has duty", new DutyDesk().onDuty(0, 0), -1);
    }

    @Holds(at = "The constants", says = "`RANGE = -2`: A number that can't be.")
    static void range(Due d) {
        d.due("RANGE", DutyDesk.RANGE, -2);
        d.due("a day that can't be", new DutyDesk().onDuty(0, 1000), -2);
    }

    @Holds(at = "The constants", says = "`FULL = -3`: No room.")
    static void full(Due d) {
        d.due("FULL", DutyDesk.FULL, -3);
        d.due("no room", Desks.fullOfLawyers().enter(0, 0, 0), -3);
    }

    @Holds(at = "The constants", says = "`STATE = -4`: Not as things are.")
    static void state(Due d) {
        d.due("STATE", DutyDesk.STATE, -4);
        d.due("it may not", Desks.of(1, 1).duty(1, 0, 0), -4);
    }

    @Holds(at = "Promise 1: A new object", says = "No LAWYERS, TRAVEL, EDITIONS, CALLS.")
    static void newOneIsEmpty(Due d) {
        DutyDesk x = new DutyDesk();
        for (int what = 0; what < 8; what++) {
            d.due("count(" + what + ")", x.count(what), 0);
        }
        d.due("lawyer(0, 0)", x.lawyer(0, 0), Due.NONE);
        d.due("paid(0)", x.paid(0), Due.RANGE);
        d.due("inForce(999, 0)", x.inForce(999, 0), Due.NONE);
        d.due("inForce(999, 1)", x.inForce(999, 1), Due.RANGE);
        d.due("rule(0, 0)", x.rule(0, 0), -9);
        d.due("told(0, 0)", x.told(0, 0), -9);
        d.due("uneven()", x.uneven(), 0);
        for (int a = 0; a < 10; a++) {
            for (int b = a + 1; b < 10; b++) {
                d.due("travel(" + a + ", " + b + ")", x.travel(a, b, 5), Due.NONE);
            }
        }
    }

    @Holds(at = "Promise 1: A new object", says = "LAWYERS, TRAVEL, EDITIONS, CALLS")
    static void newOneBesideOthersIsEmpty(Due d) {
        View.same(d, "beside others", DutyDesk::new, () -> {
            Desks.busy();
            Desks.fullOfLawyers();
            return new DutyDesk();
        });
        DutyDesk before = new DutyDesk();
        Desks.busy();
        d.due("one that was made before", before.count(0), 0);
    }
}
