import java.util.ArrayList;
import java.util.Arrays;
import java.util.HashMap;
import java.util.HashSet;
import java.util.List;
import java.util.Map;
import java.util.Set;

/** The document once more, in the plainest form and slow: all ways of a plan are tried, for one. */
final class PlainDesk {
    private static final List<String> RULES =
        Arrays.asList("reach", "ask", "rest", "most", "night", "call", "minute", "late", "cap", "order", "bar");
    private static final List<String> ORDERS = Arrays.asList("nights", "calls", "near");
    private static final List<String> BARS = Arrays.asList("fellow", "against", "town");

    private static final class Man {
        int town;
        int panels;
        int tongues;
        int struck = -1;
        final Set<Integer> away = new HashSet<>();
        final Set<Integer> against = new HashSet<>();
    }

    private static final class Case {
        int day;
        int panel;
        int town;
        int tongue;
        int number;
        int accused;
        int state;
        int asked = -1;
        final List<Integer> refused = new ArrayList<>();
        int taker = -1;
        int travel;
        int minutes;
        boolean duty;
        int paid;
    }

    private final List<Integer> tape = new ArrayList<>();
    private final List<Man> men = new ArrayList<>();
    private final List<int[]> editions = new ArrayList<>();
    /** From day times 10 and panel to the lawyer. */
    private final Map<Integer, Integer> duties = new HashMap<>();
    private final Map<String, Integer> roads = new HashMap<>();
    private final Set<String> waived = new HashSet<>();
    private final List<Case> cases = new ArrayList<>();
    private int kind = 0;
    private int place = -1;

    int feed(int... words) {
        if (tape.size() > 980) {
            return -3;
        }
        for (int w : words) {
            for (int n = 0; n < 4; n++) {
                tape.add(w >>> (24 - 8 * n) & 255);
            }
        }
        return tape.size();
    }

    int end(int n) {
        if (n < 0 || n > tape.size()) {
            return -1;
        }
        tape.subList(n, tape.size()).clear();
        return n;
    }

    int enter(int town, int panels, int tongues) {
        if (town < 0 || town > 9 || panels < 0 || panels > 63 || tongues < 0 || tongues > 255) {
            return -2;
        }
        if (men.size() == 24) {
            return -3;
        }
        Man m = new Man();
        m.town = town;
        m.panels = panels;
        m.tongues = tongues;
        men.add(m);
        return men.size() - 1;
    }

    private boolean isMan(int l) {
        return l >= 0 && l < men.size();
    }

    private static boolean isDay(int day) {
        return day >= 0 && day <= 999;
    }

    int away(int l, int day, boolean on) {
        if (!isMan(l) || !isDay(day)) {
            return -2;
        }
        Set<Integer> a = men.get(l).away;
        return (on ? a.add(day) : a.remove(day)) ? 1 : 0;
    }

    int strike(int l, int day) {
        if (!isMan(l) || !isDay(day) || men.get(l).struck != -1 && day >= men.get(l).struck) {
            return -2;
        }
        men.get(l).struck = day;
        int had = 0;
        for (int at = day; at <= 999; at++) {
            for (int p = 0; p < 6; p++) {
                if (onDuty(p, at) == l) {
                    had++;
                    duties.remove(at * 10 + p);
                    int to = -1;
                    for (int o = 0; o < men.size(); o++) {
                        if (may(o, p, at) && (to == -1 || dutiesOf(o, 999) < dutiesOf(to, 999))) {
                            to = o;
                        }
                    }
                    if (to != -1) {
                        duties.put(at * 10 + p, to);
                    }
                }
            }
        }
        return had;
    }

    private int road(int a, int b) {
        return a == b ? 10 : roads.getOrDefault(Math.min(a, b) + " " + Math.max(a, b), -1);
    }

    int travel(int a, int b, int minutes) {
        if (a < 0 || a > 9 || b < 0 || b > 9 || a == b || minutes < -1 || minutes > 600) {
            return -2;
        }
        int was = road(a, b);
        roads.put(Math.min(a, b) + " " + Math.max(a, b), minutes);
        return was;
    }

    int lawyer(int l, int what) {
        if (!isMan(l) || what < 0 || what > 5) {
            return -1;
        }
        Man m = men.get(l);
        return new int[] {m.town, m.panels, m.tongues, m.struck, dutiesOf(l, 999), callsOf(l)}[what];
    }

    private int callsOf(int l) {
        int n = 0;
        for (Case c : cases) {
            n += c.taker == l ? 1 : 0;
        }
        return n;
    }

    private int dutiesOf(int l, int upTo) {
        int n = 0;
        for (Map.Entry<Integer, Integer> e : duties.entrySet()) {
            n += e.getValue() == l && e.getKey() / 10 <= upTo ? 1 : 0;
        }
        return n;
    }

    int edition(int day) {
        StringBuilder b = new StringBuilder();
        for (int c : tape) {
            b.append((char) c);
        }
        tape.clear();
        if (!isDay(day)) {
            return -2;
        }
        kind = 0;
        place = -1;
        int[] text = {45, 10, 1, 8, 100, 60, 1, 20, 400, 0, 0, day};
        read(b.toString(), text);
        if (kind != 0) {
            return -1;
        }
        if (editions.size() == 20) {
            return -3;
        }
        editions.add(text);
        return editions.size() - 1;
    }

    private boolean wrong(int itsKind, int itsPlace) {
        kind = itsKind;
        place = itsPlace;
        return false;
    }

    private static int tokenEnd(String s, int from, char low, char high) {
        int to = from;
        while (to < s.length() && s.charAt(to) >= low && s.charAt(to) <= high) {
            to++;
        }
        return to;
    }

    /** The tokens as texts with their places; an empty one behind the last. */
    private static void cut(String s, List<String> tokens, List<Integer> places) {
        int at = 0;
        while (at < s.length()) {
            if (s.charAt(at) == ' ' || s.charAt(at) == '\n') {
                at++;
                continue;
            }
            int to = Math.max(tokenEnd(s, at, 'a', 'z'), tokenEnd(s, at, '0', '9'));
            to = Math.max(to, at + 1);
            tokens.add(s.substring(at, to));
            places.add(at);
            at = to;
        }
        tokens.add("");
        places.add(s.length());
    }

    private boolean read(String s, int[] text) {
        List<String> tokens = new ArrayList<>();
        List<Integer> places = new ArrayList<>();
        cut(s, tokens, places);
        Set<String> told = new HashSet<>();
        int t = 0;
        while (!tokens.get(t).isEmpty()) {
            String word = tokens.get(t);
            int rule = RULES.indexOf(word);
            if (rule < 0) {
                return wrong(1, places.get(t));
            }
            if (rule < 10 && !told.add(word)) {
                return wrong(3, places.get(t));
            }
            String next = tokens.get(++t);
            if (rule < 9) {
                if (!next.matches("[0-9]{1,4}")) {
                    return wrong(1, places.get(t));
                }
                int n = Integer.parseInt(next);
                if (rule == 2 && n > 9 || rule == 3 && (n < 1 || n > 30)) {
                    return wrong(2, places.get(t));
                }
                text[rule] = n;
            } else if (rule == 9) {
                text[9] = ORDERS.indexOf(next);
                if (text[9] < 0) {
                    return wrong(1, places.get(t));
                }
            } else {
                int bar = BARS.indexOf(next);
                if (bar < 0) {
                    return wrong(1, places.get(t));
                }
                if (!told.add("bar " + next)) {
                    return wrong(3, places.get(t));
                }
                text[10] += 1 << bar;
            }
            if (!tokens.get(++t).equals(";")) {
                return wrong(1, places.get(t));
            }
            t++;
        }
        return true;
    }

    int fault(int what) {
        return what == 0 ? kind : what == 1 ? place : -1;
    }

    int inForce(int day, int k) {
        if (!isDay(day) || k < 0 || k > editions.size()) {
            return -2;
        }
        for (int first = day; first >= 0; first--) {
            for (int e = k - 1; e >= 0; e--) {
                if (editions.get(e)[11] == first) {
                    return e;
                }
            }
        }
        return -1;
    }

    int rule(int e, int what) {
        if (what < 0 || what > 11 || e < -1 || e >= editions.size()) {
            return -9;
        }
        return e == -1 ? new int[] {45, 10, 1, 8, 100, 60, 1, 20, 400, 0, 0, -1}[what] : editions.get(e)[what];
    }

    private int law(int day, int k, int what) {
        return rule(inForce(day, k), what);
    }

    private int now(int day, int what) {
        return law(day, editions.size(), what);
    }

    private boolean hasDuty(int l, int day) {
        for (int p = 0; p < 6; p++) {
            if (duties.getOrDefault(day * 10 + p, -1) == l) {
                return true;
            }
        }
        return false;
    }

    private boolean may(int l, int p, int day) {
        Man m = men.get(l);
        if ((m.panels >> p & 1) == 0 || m.away.contains(day) || m.struck != -1 && day >= m.struck) {
            return false;
        }
        for (int n = 0; n <= now(day, 2); n++) {
            if (hasDuty(l, day + n) || hasDuty(l, day - n)) {
                return false;
            }
        }
        for (int from = day - 29; from <= day; from++) {
            int n = 1;
            for (int at = from; at < from + 30; at++) {
                n += hasDuty(l, at) ? 1 : 0;
            }
            if (n > now(day, 3)) {
                return false;
            }
        }
        return true;
    }

    int duty(int p, int day, int l) {
        if (p < 0 || p > 5 || !isDay(day) || l != -1 && !isMan(l)) {
            return -2;
        }
        int had = onDuty(p, day);
        duties.remove(day * 10 + p);
        boolean refused = l != -1 && !may(l, p, day);
        int to = refused ? had : l;
        if (to != -1) {
            duties.put(day * 10 + p, to);
        }
        return refused ? -4 : had;
    }

    int onDuty(int p, int day) {
        return p < 0 || p > 5 || !isDay(day) ? -2 : duties.getOrDefault(day * 10 + p, -1);
    }

    private int[] best;
    private int bestNones;
    private int bestUneven;

    int plan(int p, int day, int n) {
        if (p < 0 || p > 5 || n < 1 || n > 4 || !isDay(day) || !isDay(day + n - 1)) {
            return -2;
        }
        for (int j = 0; j < n; j++) {
            duties.remove((day + j) * 10 + p);
        }
        best = null;
        tryAll(p, day, 0, new int[n]);
        for (int j = 0; j < n; j++) {
            if (best[j] != 24) {
                duties.put((day + j) * 10 + p, best[j]);
            }
        }
        return bestNones;
    }

    private void tryAll(int p, int day, int j, int[] row) {
        if (j == row.length) {
            int nones = 0;
            for (int l : row) {
                nones += l == 24 ? 1 : 0;
            }
            int sum = uneven();
            if (best == null || nones < bestNones || nones == bestNones && sum < bestUneven) {
                best = row.clone();
                bestNones = nones;
                bestUneven = sum;
            }
            return;
        }
        for (int l = 0; l < men.size(); l++) {
            if (may(l, p, day + j)) {
                row[j] = l;
                duties.put((day + j) * 10 + p, l);
                tryAll(p, day, j + 1, row);
                duties.remove((day + j) * 10 + p);
            }
        }
        row[j] = 24;
        tryAll(p, day, j + 1, row);
    }

    int uneven() {
        int[] many = new int[24];
        for (int l : duties.values()) {
            many[l]++;
        }
        int sum = 0;
        for (int n : many) {
            sum += n * n;
        }
        return sum;
    }

    int against(int l, int c) {
        return !isMan(l) || c < 0 || c > 99 ? -2 : men.get(l).against.add(c) ? 1 : 0;
    }

    int waive(int c, int accused) {
        return c < 0 || c > 99 || accused < 0 || accused > 9 ? -2 : waived.add(c + " " + accused) ? 1 : 0;
    }

    int call(int day, int minute, int p, int town, int tongue, int c, int accused) {
        if (!isDay(day) || minute < 0 || minute > 1439 || p < 0 || p > 5 || town < 0 || town > 9 || tongue < -1
            || tongue > 7 || c < 0 || c > 99 || accused < 0 || accused > 9) {
            return -2;
        }
        if (!cases.isEmpty() && day < cases.get(cases.size() - 1).day) {
            return -2;
        }
        if (cases.size() == 150) {
            return -3;
        }
        Case one = new Case();
        one.day = day;
        one.panel = p;
        one.town = town;
        one.tongue = tongue;
        one.number = c;
        one.accused = accused;
        cases.add(one);
        ask(cases.size() - 1);
        return cases.size() - 1;
    }

    private void ask(int i) {
        Case one = cases.get(i);
        int former = -1;
        for (int j = 0; j < i; j++) {
            Case o = cases.get(j);
            former = o.taker != -1 && o.number == one.number && o.accused == one.accused ? o.taker : former;
        }
        one.asked = -1;
        int[] bestRank = null;
        for (int l = 0; l < men.size(); l++) {
            if (barred(i, l) != 0 || one.refused.contains(l)) {
                continue;
            }
            int order = now(one.day, 9);
            int last = order == 0 ? dutiesOf(l, one.day) : order == 1 ? callsOf(l) : road(men.get(l).town, one.town);
            int[] rank = {l == former ? 0 : l == onDuty(one.panel, one.day) ? 1 : 2, last};
            if (bestRank == null || Arrays.compare(rank, bestRank) < 0) {
                bestRank = rank;
                one.asked = l;
            }
        }
        one.state = one.asked == -1 ? 2 : 0;
    }

    private boolean isCall(int i) {
        return i >= 0 && i < cases.size();
    }

    int asked(int i) {
        return isCall(i) ? cases.get(i).asked : -2;
    }

    int answer(int i, boolean takes) {
        if (!isCall(i)) {
            return -2;
        }
        Case one = cases.get(i);
        if (one.state != 0) {
            return -4;
        }
        if (!takes) {
            one.refused.add(one.asked);
            ask(i);
            return one.asked;
        }
        one.taker = one.asked;
        one.asked = -1;
        one.state = 1;
        int road = road(men.get(one.taker).town, one.town);
        one.travel = road == -1 ? 0 : road;
        one.minutes = one.refused.size() * now(one.day, 1) + one.travel;
        one.duty = onDuty(one.panel, one.day) == one.taker;
        return -1;
    }

    int told(int i, int what) {
        if (!isCall(i) || what < 0 || what > 5) {
            return -9;
        }
        Case c = cases.get(i);
        if (c.state != 1 && what > 1) {
            return -1;
        }
        int late = c.minutes > now(c.day, 0) ? 1 : 0;
        return new int[] {c.state, c.refused.size(), c.taker, c.minutes, late, c.duty ? 1 : 0}[what];
    }

    int barred(int i, int l) {
        if (!isCall(i) || !isMan(l)) {
            return -2;
        }
        Case c = cases.get(i);
        Man m = men.get(l);
        int bars = now(c.day, 10);
        int why = (m.panels >> c.panel & 1) == 1 ? 0 : 1;
        why += m.away.contains(c.day) || m.struck != -1 && m.struck <= c.day ? 2 : 0;
        why += c.tongue == -1 || (m.tongues >> c.tongue & 1) == 1 ? 0 : 4;
        why += road(m.town, c.town) == -1 ? 8 : 0;
        boolean fellow = false;
        for (Case o : cases) {
            fellow |= o.taker == l && o.number == c.number && o.accused != c.accused
                && !waived.contains(c.number + " " + c.accused) && !waived.contains(c.number + " " + o.accused);
        }
        why += (bars & 1) != 0 && fellow ? 16 : 0;
        why += (bars & 2) != 0 && m.against.contains(c.number) ? 32 : 0;
        why += (bars & 4) != 0 && m.town == c.town ? 64 : 0;
        return why;
    }

    int line(int i, int k, int line) {
        if (!isCall(i) || k < 0 || k > editions.size()) {
            return -2;
        }
        Case c = cases.get(i);
        if (c.state != 1 || line < 0 || line > 4) {
            return -1;
        }
        int[] lines = new int[5];
        lines[0] = c.duty ? law(c.day, k, 4) : 0;
        lines[1] = law(c.day, k, 5);
        lines[2] = law(c.day, k, 6) * (c.travel + c.travel);
        lines[3] = c.minutes > law(c.day, k, 0) ? -law(c.day, k, 7) : 0;
        int above = lines[0] + lines[1] + lines[2] + lines[3] - law(c.day, k, 8);
        lines[4] = above > 0 ? -above : 0;
        return lines[line];
    }

    int claim(int i, int k) {
        if (!isCall(i) || k < 0 || k > editions.size()) {
            return -2;
        }
        if (cases.get(i).state != 1) {
            return -1;
        }
        int sum = 0;
        for (int n = 0; n < 5; n++) {
            sum += line(i, k, n);
        }
        return sum < 0 ? 0 : sum;
    }

    int pay(int i) {
        if (!isCall(i)) {
            return -2;
        }
        Case c = cases.get(i);
        if (c.state != 1) {
            return -4;
        }
        int more = claim(i, editions.size()) - c.paid;
        c.paid += more;
        return more;
    }

    int paid(int l) {
        int sum = 0;
        for (Case c : cases) {
            sum += c.taker == l ? c.paid : 0;
        }
        return isMan(l) ? sum : -2;
    }

    int count(int what) {
        int[] states = new int[3];
        for (Case c : cases) {
            states[c.state]++;
        }
        int[] all = {men.size(), editions.size(), cases.size(), duties.size(), tape.size(), states[0], states[1], states[2]};
        return what >= 0 && what < all.length ? all[what] : -1;
    }
}
