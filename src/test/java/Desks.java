import java.util.function.Supplier;
import java.util.function.ToIntFunction;

/** Desks that the tests begin with, and what is done with each of them. */
final class Desks {
    private Desks() {
    }

    /** So many lawyers of town 0 on these panels, without tongues. */
    static DutyDesk of(int lawyers, int panels) {
        DutyDesk x = new DutyDesk();
        for (int l = 0; l < lawyers; l++) {
            x.enter(0, panels, 0);
        }
        return x;
    }

    static DutyDesk under(int lawyers, int panels, String text) {
        DutyDesk x = of(lawyers, panels);
        Due.edition(x, 0, text);
        return x;
    }

    /** Call 0 comes on a day, for panel 0 in town 0, and is taken by the first that is asked. */
    static DutyDesk taken(DutyDesk x, int day) {
        x.call(day, 0, 0, 0, -1, 0, 0);
        x.answer(0, true);
        return x;
    }

    /** Something of each kind; its days are below 30 or above 989. */
    static DutyDesk busy() {
        DutyDesk x = new DutyDesk();
        x.enter(0, 3, 1);
        x.enter(1, 1, 3);
        x.enter(2, 3, 1);
        x.enter(0, 35, 255);
        x.travel(0, 1, 30);
        x.travel(0, 2, 50);
        Due.edition(x, 0, "rest 0;most 3;bar fellow;");
        Due.edition(x, 10, "order near;reach 20;bar against;");
        x.plan(0, 5, 4);
        x.plan(1, 5, 2);
        x.duty(0, 995, 2);
        x.duty(5, 20, 3);
        x.away(0, 6, true);
        x.away(1, 29, true);
        x.strike(3, 25);
        x.against(1, 7);
        x.waive(7, 2);
        x.call(5, 60, 0, 0, 0, 7, 0);
        x.answer(0, true);
        x.pay(0);
        x.call(6, 0, 0, 1, -1, 7, 1);
        x.answer(1, false);
        x.answer(1, true);
        x.call(12, 0, 4, 1, -1, 7, 1);
        x.call(13, 0, 0, 0, -1, 8, 1);
        x.answer(3, false);
        Due.edition(x, 3, "ask x;");
        Due.type(x, "ask 7;cap");
        return x;
    }

    static DutyDesk fullOfLawyers() {
        return of(24, 1);
    }

    static DutyDesk fullOfEditions() {
        DutyDesk x = of(1, 1);
        for (int e = 0; e < 20; e++) {
            Due.edition(x, 2 * e, "ask " + e + ";");
        }
        return x;
    }

    static DutyDesk fullOfCalls() {
        DutyDesk x = of(2, 1);
        for (int i = 0; i < 150; i++) {
            x.call(3, i, 0, 0, -1, i % 100, 0);
        }
        return x;
    }

    /** Numbers that are just too small, just too large, far off, or right again if they were cut to 16 bits. */
    static int[] outside(int low, int high) {
        return new int[] {low - 1, high + 1, Integer.MIN_VALUE, Integer.MAX_VALUE, low + 65536, high - 65536};
    }

    /** The call answers so, and leaves the desk as it was. */
    static void refused(Due d, String what, Supplier<DutyDesk> desk, ToIntFunction<DutyDesk> call, int answer) {
        d.due(what, call.applyAsInt(desk.get()), answer);
        View.same(d, "behind " + what, desk, () -> {
            DutyDesk x = desk.get();
            call.applyAsInt(x);
            return x;
        });
    }
}
