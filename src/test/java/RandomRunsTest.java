import java.util.ArrayList;
import java.util.List;
import java.util.Random;

/** Long runs of calls, made from fixed seeds, must answer as the plain desk does. */
public final class RandomRunsTest {
    private static final String[] WORDS = {
        "reach", "ask", "rest", "most", "night", "call", "minute", "late", "cap", "order", "bar", "nights", "calls",
        "near", "fellow", "against", "town", ";", "7", "0", "31", "12345", " ", "\n", "x", "-"};
    private static final int[] ODD = {-1, -2, 0, 6, 10, 24, 100, 150, 999, 1000, Integer.MAX_VALUE, Integer.MIN_VALUE};

    private final Random random;
    private final DutyDesk desk = new DutyDesk();
    private final PlainDesk plain = new PlainDesk();
    private final int lawyers;
    private final int days;
    private final List<String> rows = new ArrayList<>();
    private boolean wrong;

    private RandomRunsTest(long seed) {
        random = new Random(seed);
        lawyers = 1 + random.nextInt(random.nextInt(10) == 0 ? 24 : 6);
        days = 4 + random.nextInt(random.nextBoolean() ? 20 : 90);
    }

    public static void main(String[] args) {
        int runs = args.length > 0 ? Integer.parseInt(args[0]) : 200;
        int bad = 0;
        for (int seed = 0; seed < runs && bad < 3; seed++) {
            RandomRunsTest run = new RandomRunsTest(seed);
            run.go();
            if (run.wrong) {
                bad++;
                System.out.println("seed " + seed + ":");
                for (String row : run.rows) {
                    System.out.println("  " + row);
                }
            }
        }
        if (bad != 0) {
            System.exit(1);
        }
    }

    private void go() {
        for (int l = 0; l < lawyers; l++) {
            enter();
        }
        for (int n = 0; n < 12; n++) {
            travel();
        }
        while (rows.size() < 512 && !wrong) {
            step();
        }
    }

    private void same(String call, int got, int want) {
        rows.add(call + " answered " + got + (got == want ? "" : ", the plain desk says " + want));
        wrong |= got != want;
    }

    /** Mostly below the bound, at times anything. */
    private int below(int bound) {
        return random.nextInt(60) == 0 ? ODD[random.nextInt(ODD.length)] : random.nextInt(Math.max(1, bound));
    }

    private int day() {
        int late = random.nextInt(40) == 0 ? 990 : 0;
        return below(late == 0 ? days : 10) + late;
    }

    private int man() {
        return below(lawyers);
    }

    private int which() {
        int n = plain.count(2);
        return random.nextInt(3) == 0 ? below(n) : n - 1 - random.nextInt(Math.max(1, Math.min(4, n)));
    }

    private void step() {
        switch (random.nextInt(12)) {
            case 0:
            case 1:
                nights();
                break;
            case 2:
            case 3:
                plan();
                break;
            case 4:
            case 5:
                come();
                break;
            case 6:
            case 7:
                goOn();
                break;
            case 8:
                claims();
                break;
            case 9:
                statutes();
                break;
            case 10:
                people();
                break;
            default:
                look();
                break;
        }
    }

    private void enter() {
        int town = below(4);
        int panels = random.nextInt(3) == 0 ? below(64) : 3;
        int tongues = random.nextInt(3) == 0 ? below(256) : 7;
        same("enter " + town + " " + panels + " " + tongues, desk.enter(town, panels, tongues), plain.enter(town, panels, tongues));
    }

    private void travel() {
        int a = below(4);
        int b = below(4);
        int minutes = random.nextInt(8) == 0 ? -1 : below(60);
        same("travel " + a + " " + b + " " + minutes, desk.travel(a, b, minutes), plain.travel(a, b, minutes));
    }

    private void nights() {
        int p = below(3);
        int day = day();
        int l = random.nextInt(6) == 0 ? -1 : man();
        same("duty " + p + " " + day + " " + l, desk.duty(p, day, l), plain.duty(p, day, l));
        same("onDuty " + p + " " + day, desk.onDuty(p, day), plain.onDuty(p, day));
    }

    private void plan() {
        int p = below(3);
        int day = day();
        int n = random.nextInt(60) == 0 ? below(9) : 1 + random.nextInt(lawyers > 6 ? 2 : 4);
        same("plan " + p + " " + day + " " + n, desk.plan(p, day, n), plain.plan(p, day, n));
        for (int j = 0; j < 4; j++) {
            same("onDuty " + p + " " + (day + j), desk.onDuty(p, day + j), plain.onDuty(p, day + j));
        }
        same("uneven", desk.uneven(), plain.uneven());
    }

    private int latest = 0;

    private void come() {
        int day = random.nextInt(10) == 0 ? day() : Math.min(999, latest + random.nextInt(3) / 2);
        latest = day >= latest && day < days ? day : latest;
        int minute = below(1440);
        int p = below(3);
        int town = below(4);
        int tongue = below(5) - 1;
        int c = below(3);
        int accused = below(3);
        same("call " + day + " " + minute + " " + p + " " + town + " " + tongue + " " + c + " " + accused,
            desk.call(day, minute, p, town, tongue, c, accused), plain.call(day, minute, p, town, tongue, c, accused));
        goOn();
    }

    private void goOn() {
        int i = which();
        same("asked " + i, desk.asked(i), plain.asked(i));
        boolean takes = random.nextInt(3) != 0;
        same("answer " + i + " " + takes, desk.answer(i, takes), plain.answer(i, takes));
        int what = below(6);
        same("told " + i + " " + what, desk.told(i, what), plain.told(i, what));
        int l = man();
        same("barred " + i + " " + l, desk.barred(i, l), plain.barred(i, l));
    }

    private void claims() {
        int i = which();
        int k = below(plain.count(1) + 1);
        same("claim " + i + " " + k, desk.claim(i, k), plain.claim(i, k));
        for (int n = 0; n < 5; n++) {
            same("line " + i + " " + k + " " + n, desk.line(i, k, n), plain.line(i, k, n));
        }
        int n = below(5);
        same("line " + i + " " + k + " " + n, desk.line(i, k, n), plain.line(i, k, n));
        same("pay " + i, desk.pay(i), plain.pay(i));
        int l = man();
        same("paid " + l, desk.paid(l), plain.paid(l));
    }

    private String text() {
        StringBuilder b = new StringBuilder();
        int lines = random.nextInt(6);
        for (int n = 0; n < lines; n++) {
            int rule = random.nextInt(12);
            b.append(WORDS[Math.min(rule, 10)]).append(random.nextInt(4) == 0 ? "\n " : " ");
            if (rule < 9) {
                b.append(rule == 2 ? random.nextInt(4) : rule == 3 ? 1 + random.nextInt(4) : random.nextInt(120));
            } else {
                b.append(WORDS[(rule == 9 ? 11 : 14) + random.nextInt(3)]);
            }
            b.append(random.nextInt(4) == 0 ? " ;" : ";");
            if (random.nextInt(25) == 0) {
                b.append(WORDS[random.nextInt(WORDS.length)]);
            }
        }
        return b.toString();
    }

    private void statutes() {
        String text = text();
        same("end 0", desk.end(0), plain.end(0));
        for (int at = 0; at < text.length(); at += 20) {
            int[] w = new int[5];
            for (int n = 0; n < 20; n++) {
                w[n / 4] = w[n / 4] << 8 | (at + n < text.length() ? text.charAt(at + n) : ' ');
            }
            same("feed", desk.feed(w[0], w[1], w[2], w[3], w[4]), plain.feed(w));
        }
        int n = text.length() - (random.nextInt(12) == 0 ? random.nextInt(5) : 0);
        same("end " + n, desk.end(n), plain.end(n));
        int day = day();
        same("edition " + day + " of '" + text + "'", desk.edition(day), plain.edition(day));
        same("fault 0", desk.fault(0), plain.fault(0));
        same("fault 1", desk.fault(1), plain.fault(1));
        int k = below(plain.count(1) + 1);
        int on = day();
        same("inForce " + on + " " + k, desk.inForce(on, k), plain.inForce(on, k));
        int e = below(plain.count(1) + 1) - 1;
        int what = below(12);
        same("rule " + e + " " + what, desk.rule(e, what), plain.rule(e, what));
    }

    private void people() {
        int l = man();
        int day = day();
        switch (random.nextInt(7)) {
            case 0:
                enter();
                break;
            case 1:
                travel();
                break;
            case 2:
                if (random.nextInt(4) == 0) {
                    same("strike " + l + " " + day, desk.strike(l, day), plain.strike(l, day));
                }
                break;
            case 3:
                int c = below(3);
                same("against " + l + " " + c, desk.against(l, c), plain.against(l, c));
                break;
            case 4:
                int of = below(3);
                int accused = below(3);
                same("waive " + of + " " + accused, desk.waive(of, accused), plain.waive(of, accused));
                break;
            default:
                boolean on = random.nextBoolean();
                same("away " + l + " " + day + " " + on, desk.away(l, day, on), plain.away(l, day, on));
                break;
        }
    }

    private void look() {
        int l = man();
        int what = below(6);
        same("lawyer " + l + " " + what, desk.lawyer(l, what), plain.lawyer(l, what));
        int of = below(8);
        same("count " + of, desk.count(of), plain.count(of));
        int a = ODD[random.nextInt(ODD.length)];
        int b = ODD[random.nextInt(ODD.length)];
        int c = ODD[random.nextInt(ODD.length)];
        same("odd end " + a, desk.end(a), plain.end(a));
        same("odd rule " + a + " " + b, desk.rule(a, b), plain.rule(a, b));
        same("odd line " + a + " " + b + " " + c, desk.line(a, b, c), plain.line(a, b, c));
        same("odd told " + a + " " + b, desk.told(a, b), plain.told(a, b));
        same("odd plan " + a + " " + b + " " + c, desk.plan(a, b, c), plain.plan(a, b, c));
        same("odd call", desk.call(a, b, c, a, b, c, a), plain.call(a, b, c, a, b, c, a));
        same("odd duty " + a + " " + b + " " + c, desk.duty(a, b, c), plain.duty(a, b, c));
    }
}
