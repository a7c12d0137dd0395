import java.util.ArrayList;
import java.util.Arrays;
import java.util.List;
import java.util.function.BiConsumer;
import java.util.function.Supplier;

/**
 * What can be seen of a desk. Much of it shows only when it is changed (TRAVEL, who is AWAY, THE
 * TAPE), and an object is good for 512 calls, so each set of questions gets a desk of its own.
 */
final class View {
    private static final List<BiConsumer<DutyDesk, List<Integer>>> QUESTIONS = Arrays.asList(
        View::people, View::rules, View::inForce, View::nights, View::calls, View::bars, View::claims, View::lines,
        View::travel, View::away, View::against, View::waived, View::tape, View::asking, View::pays);

    private View() {
    }

    static void same(Due d, String what, Supplier<DutyDesk> one, Supplier<DutyDesk> other) {
        for (int q = 0; q < QUESTIONS.size(); q++) {
            List<Integer> first = answers(q, one.get());
            List<Integer> second = answers(q, other.get());
            d.holds(what + " all is as it was (questions " + q + "): " + first + " and " + second, first.equals(second));
        }
    }

    private static List<Integer> answers(int q, DutyDesk x) {
        List<Integer> all = new ArrayList<>();
        QUESTIONS.get(q).accept(x, all);
        return all;
    }

    private static void people(DutyDesk x, List<Integer> all) {
        for (int what = 0; what < 8; what++) {
            all.add(x.count(what));
        }
        all.add(x.uneven());
        all.add(x.fault(0));
        all.add(x.fault(1));
        for (int l = 0; l < 24; l++) {
            all.add(x.paid(l));
            for (int what = 0; what < 6; what++) {
                all.add(x.lawyer(l, what));
            }
        }
    }

    private static void rules(DutyDesk x, List<Integer> all) {
        for (int e = -1; e < 20; e++) {
            for (int what = 0; what < 12; what++) {
                all.add(x.rule(e, what));
            }
        }
    }

    private static void inForce(DutyDesk x, List<Integer> all) {
        for (int day = 0; day < 40; day += 3) {
            for (int k = 0; k <= 20; k++) {
                all.add(x.inForce(day, k));
            }
        }
    }

    private static void nights(DutyDesk x, List<Integer> all) {
        for (int p = 0; p < 6; p++) {
            for (int day = 0; day < 40; day++) {
                all.add(x.onDuty(p, day < 30 ? day : 960 + day));
            }
        }
    }

    private static void calls(DutyDesk x, List<Integer> all) {
        for (int i = 0; i < 30; i++) {
            all.add(x.asked(i));
            for (int what = 0; what < 6; what++) {
                all.add(x.told(i, what));
            }
        }
    }

    private static void bars(DutyDesk x, List<Integer> all) {
        for (int i = 0; i < 8; i++) {
            for (int l = 0; l < 24; l++) {
                all.add(x.barred(i, l));
            }
        }
    }

    private static void claims(DutyDesk x, List<Integer> all) {
        for (int i = 0; i < 10; i++) {
            for (int k = 0; k <= 20; k++) {
                all.add(x.claim(i, k));
            }
        }
    }

    private static void lines(DutyDesk x, List<Integer> all) {
        for (int i = 0; i < 4; i++) {
            for (int k = 0; k <= 5; k++) {
                for (int line = 0; line < 5; line++) {
                    all.add(x.line(i, k, line));
                }
            }
        }
    }

    private static void travel(DutyDesk x, List<Integer> all) {
        for (int a = 0; a < 10; a++) {
            for (int b = a + 1; b < 10; b++) {
                all.add(x.travel(a, b, -1));
            }
        }
    }

    private static void away(DutyDesk x, List<Integer> all) {
        for (int l = 0; l < 5; l++) {
            for (int day = 0; day < 40; day++) {
                all.add(x.away(l, day < 30 ? day : 960 + day, true));
            }
        }
    }

    private static void against(DutyDesk x, List<Integer> all) {
        for (int l = 0; l < 24; l++) {
            for (int c = 0; c < 10; c++) {
                all.add(x.against(l, c));
            }
        }
    }

    private static void waived(DutyDesk x, List<Integer> all) {
        for (int c = 0; c < 10; c++) {
            for (int accused = 0; accused < 10; accused++) {
                all.add(x.waive(c, accused));
            }
        }
    }

    private static void tape(DutyDesk x, List<Integer> all) {
        all.add(x.edition(500));
        all.add(x.fault(0));
        all.add(x.fault(1));
        for (int what = 0; what < 12; what++) {
            all.add(x.rule(x.count(1) - 1, what));
        }
    }

    /** Who is still to be asked, and who was, shows as all refuse. */
    private static void asking(DutyDesk x, List<Integer> all) {
        for (int i = 0; i < 6; i++) {
            for (int n = 0; n < 25; n++) {
                all.add(x.answer(i, false));
            }
        }
        all.add(x.call(999, 0, 0, 0, -1, 7, 0));
        all.add(x.call(0, 0, 0, 0, -1, 7, 0));
    }

    private static void pays(DutyDesk x, List<Integer> all) {
        for (int i = 0; i < 30; i++) {
            all.add(x.pay(i));
        }
        for (int l = 0; l < 24; l++) {
            all.add(x.paid(l));
        }
    }
}
