import java.util.Arrays;

/**
 * A desk that sends lawyers to those who are taken at night. What each method promises stands in
 * the document; the classes inside hold one part of it each: the statutes, the people, the nights,
 * the calls with their claims.
 */
public final class DutyDesk {
    public static final int NONE = -1;
    public static final int RANGE = -2;
    public static final int FULL = -3;
    public static final int STATE = -4;

    private static final int NO_SUCH = -9;

    private static final int MAX_LAWYERS = 24;
    private static final int MAX_EDITIONS = 20;
    private static final int MAX_CALLS = 150;
    private static final int MAX_BYTES = 1000;
    private static final int FEED_BYTES = 20;
    private static final int TOWNS = 10;
    private static final int PANELS = 6;
    private static final int TONGUES = 8;
    private static final int DAYS = 1000;
    private static final int MINUTES = 1440;
    private static final int CASES = 100;
    private static final int ACCUSED = 10;
    private static final int FARTHEST = 600;
    private static final int WITHIN_TOWN = 10;
    private static final int WINDOW = 30;
    private static final int PLAN_NIGHTS = 4;
    private static final int LINES = 5;
    private static final int CAP_LINE = 4;

    // What a text tells, numbered as rule() asks for it.
    private static final int REACH = 0;
    private static final int ASK = 1;
    private static final int REST = 2;
    private static final int MOST = 3;
    private static final int NIGHT = 4;
    private static final int CALL = 5;
    private static final int MINUTE = 6;
    private static final int LATE = 7;
    private static final int CAP = 8;
    private static final int ORDER = 9;
    private static final int BARS = 10;
    private static final int FIRST_DAY = 11;
    private static final int RULES = 12;

    private static final int BY_NIGHTS = 0;
    private static final int BY_CALLS = 1;

    private static final int BAR_FELLOW = 1;
    private static final int BAR_AGAINST = 2;
    private static final int BAR_TOWN = 4;

    private static final int ASKING = 0;
    private static final int TAKEN = 1;
    private static final int OPEN = 2;

    /** A text without lines, in the order of the numbers above. */
    private static final int[] PLAIN_TEXT = {45, 10, 1, 8, 100, 60, 1, 20, 400, 0, 0, NONE};

    private final Reader reader;
    private final Statutes statutes;
    private final People people;
    private final Nights nights;
    private final Planner planner;
    private final Calls calls;

    public DutyDesk() {
        reader = new Reader();
        statutes = new Statutes();
        people = new People();
        nights = new Nights(people, statutes);
        planner = new Planner(people, nights);
        calls = new Calls(people, statutes, nights);
    }

    public int feed(int a, int b, int c, int d, int e) {
        if (reader.length + FEED_BYTES > MAX_BYTES) {
            return FULL;
        }
        reader.append(a);
        reader.append(b);
        reader.append(c);
        reader.append(d);
        reader.append(e);
        return reader.length;
    }

    public int end(int n) {
        if (n < 0 || n > reader.length) {
            return NONE;
        }
        reader.length = n;
        return n;
    }

    // ---- people

    public int enter(int town, int panels, int tongues) {
        if (!isBelow(town, TOWNS) || !isBelow(panels, 1 << PANELS) || !isBelow(tongues, 1 << TONGUES)) {
            return RANGE;
        }
        if (people.size >= MAX_LAWYERS) {
            return FULL;
        }
        return people.add(town, panels, tongues);
    }

    public int away(int l, int day, boolean on) {
        if (!people.has(l) || !isBelow(day, DAYS)) {
            return RANGE;
        }
        if (people.isAway(l, day) == on) {
            return 0;
        }
        people.turnAway(l, day);
        return 1;
    }

    public int strike(int l, int day) {
        if (!people.has(l) || !isBelow(day, DAYS) || people.isStruck(l, day)) {
            return RANGE;
        }
        people.struck[l] = day;
        return nights.passOn(l, day);
    }

    public int travel(int a, int b, int minutes) {
        if (!isBelow(a, TOWNS) || !isBelow(b, TOWNS) || a == b || minutes < NONE || minutes > FARTHEST) {
            return RANGE;
        }
        int before = people.minutesBetween(a, b);
        people.setMinutes(a, b, minutes);
        return before;
    }

    public int lawyer(int l, int what) {
        if (!people.has(l)) {
            return NONE;
        }
        switch (what) {
            case 0:
                return people.town[l];
            case 1:
                return people.panels[l];
            case 2:
                return people.tongues[l];
            case 3:
                return people.struck[l];
            case 4:
                return nights.duties[l];
            case 5:
                return people.taken[l];
            default:
                return NONE;
        }
    }

    // ---- statutes

    public int edition(int day) {
        if (!isBelow(day, DAYS)) {
            reader.length = 0;
            return RANGE;
        }
        if (!reader.readTape()) {
            return NONE;
        }
        return statutes.size < MAX_EDITIONS ? statutes.add(reader.text, day) : FULL;
    }

    public int fault(int what) {
        if (what == 0) {
            return reader.faultKind;
        }
        return what == 1 ? reader.faultPlace : NONE;
    }

    public int inForce(int day, int k) {
        if (!isBelow(day, DAYS) || !statutes.canKnow(k)) {
            return RANGE;
        }
        return statutes.numberInForce(day, k);
    }

    public int rule(int e, int what) {
        if (!isBelow(what, RULES) || e < NONE || e >= statutes.size) {
            return NO_SUCH;
        }
        return statutes.text(e)[what];
    }

    // ---- nights

    public int duty(int p, int day, int l) {
        if (!isBelow(p, PANELS) || !isBelow(day, DAYS) || l != NONE && !people.has(l)) {
            return RANGE;
        }
        int before = nights.holder(p, day);
        nights.put(p, day, NONE);
        if (l != NONE && !nights.mayHave(l, p, day)) {
            nights.put(p, day, before);
            return STATE;
        }
        nights.put(p, day, l);
        return before;
    }

    public int onDuty(int p, int day) {
        if (!isBelow(p, PANELS) || !isBelow(day, DAYS)) {
            return RANGE;
        }
        return nights.holder(p, day);
    }

    public int plan(int p, int day, int n) {
        if (!isBelow(p, PANELS) || !isBelow(day, DAYS) || n < 1 || n > PLAN_NIGHTS || day + n > DAYS) {
            return RANGE;
        }
        return planner.makePlan(p, day, n);
    }

    public int uneven() {
        int sum = 0;
        for (int l = 0; l < people.size; l++) {
            sum += nights.duties[l] * nights.duties[l];
        }
        return sum;
    }

    // ---- calls

    public int against(int l, int c) {
        if (!people.has(l) || !isBelow(c, CASES)) {
            return RANGE;
        }
        int before = calls.against[c];
        calls.against[c] = before | 1 << l;
        return calls.against[c] == before ? 0 : 1;
    }

    public int waive(int c, int accused) {
        if (!isBelow(c, CASES) || !isBelow(accused, ACCUSED)) {
            return RANGE;
        }
        int before = calls.waived[c];
        calls.waived[c] = before | 1 << accused;
        return calls.waived[c] == before ? 0 : 1;
    }

    public int call(int day, int minute, int p, int town, int tongue, int c, int accused) {
        if (!isBelow(day, DAYS) || !isBelow(minute, MINUTES) || day < calls.latestDay()) {
            return RANGE;
        }
        if (!isBelow(p, PANELS) || !isBelow(town, TOWNS) || tongue != NONE && !isBelow(tongue, TONGUES)) {
            return RANGE;
        }
        if (!isBelow(c, CASES) || !isBelow(accused, ACCUSED)) {
            return RANGE;
        }
        if (calls.size >= MAX_CALLS) {
            return FULL;
        }
        int number = calls.add(new Call(day, p, town, tongue, c, accused));
        calls.askNext(number);
        return number;
    }

    public int asked(int i) {
        return calls.has(i) ? calls.get(i).asked : RANGE;
    }

    public int answer(int i, boolean takes) {
        if (!calls.has(i)) {
            return RANGE;
        }
        if (calls.get(i).state != ASKING) {
            return STATE;
        }
        if (takes) {
            calls.take(i);
            return NONE;
        }
        calls.get(i).refused++;
        return calls.askNext(i);
    }

    public int told(int i, int what) {
        if (!calls.has(i) || !isBelow(what, 6)) {
            return NO_SUCH;
        }
        Call one = calls.get(i);
        if (what == 0) {
            return one.state;
        }
        if (what == 1) {
            return one.refused;
        }
        if (one.state != TAKEN) {
            return NONE;
        }
        switch (what) {
            case 2:
                return one.taker;
            case 3:
                return one.delay;
            case 4:
                return one.isLate(statutes.textNow(one.day)) ? 1 : 0;
            default:
                return one.wasDuty ? 1 : 0;
        }
    }

    public int barred(int i, int l) {
        if (!calls.has(i) || !people.has(l)) {
            return RANGE;
        }
        Call one = calls.get(i);
        return calls.reasonsAgainst(one, l, statutes.textNow(one.day)[BARS]);
    }

    // ---- claims

    public int claim(int i, int k) {
        if (!calls.has(i) || !statutes.canKnow(k)) {
            return RANGE;
        }
        Call one = calls.get(i);
        return one.state == TAKEN ? one.sumDue(statutes.textKnown(one.day, k)) : NONE;
    }

    public int line(int i, int k, int line) {
        if (!calls.has(i) || !statutes.canKnow(k)) {
            return RANGE;
        }
        Call one = calls.get(i);
        if (one.state != TAKEN || !isBelow(line, LINES)) {
            return NONE;
        }
        return one.lineDue(statutes.textKnown(one.day, k), line);
    }

    public int pay(int i) {
        if (!calls.has(i)) {
            return RANGE;
        }
        Call one = calls.get(i);
        if (one.state != TAKEN) {
            return STATE;
        }
        int before = one.settled;
        one.settled = one.sumDue(statutes.textNow(one.day));
        return one.settled - before;
    }

    public int paid(int l) {
        return people.has(l) ? calls.settledFor(l) : RANGE;
    }

    public int count(int what) {
        switch (what) {
            case 0:
                return people.size;
            case 1:
                return statutes.size;
            case 2:
                return calls.size;
            case 3:
                return nights.allDuties();
            case 4:
                return reader.length;
            case 5:
                return calls.inState(ASKING);
            case 6:
                return calls.inState(TAKEN);
            case 7:
                return calls.inState(OPEN);
            default:
                return NONE;
        }
    }

    private static boolean isBelow(int number, int bound) {
        return number >= 0 && number < bound;
    }

    private static boolean hasBit(int bits, int bit) {
        return (bits >> bit & 1) == 1;
    }

    /** The EDITIONS. */
    private static final class Statutes {
        private final int[][] texts = new int[MAX_EDITIONS][RULES];
        private int size;

        private int add(int[] text, int day) {
            System.arraycopy(text, 0, texts[size], 0, RULES);
            texts[size][FIRST_DAY] = day;
            size++;
            return size - 1;
        }

        private boolean canKnow(int k) {
            return k >= 0 && k <= size;
        }

        private int numberInForce(int day, int k) {
            int found = NONE;
            int foundDay = NONE;
            for (int e = 0; e < k && e < size; e++) {
                int first = texts[e][FIRST_DAY];
                if (first <= day && first >= foundDay) {
                    found = e;
                    foundDay = first;
                }
            }
            return found;
        }

        private int[] text(int e) {
            return e >= 0 && e < size ? texts[e] : PLAIN_TEXT;
        }

        private int[] textKnown(int day, int k) {
            return text(numberInForce(day, k));
        }

        private int[] textNow(int day) {
            return text(numberInForce(day, size));
        }
    }

    /** THE TAPE, read token by token; it keeps what the latest text told, or its FAULT. */
    private static final class Reader {
        private static final int SYNTAX = 1;
        private static final int BOUNDS = 2;
        private static final int TWICE = 3;

        private static final int NO_TOKEN = 0;
        private static final int WORD = 1;
        private static final int NUMBER = 2;
        private static final int SEMICOLON = 3;
        private static final int TEXT_END = 4;

        private static final int WANT_LINE = 0;
        private static final int WANT_NUMBER = 1;
        private static final int WANT_ORDER = 2;
        private static final int WANT_BAR = 3;
        private static final int WANT_SEMICOLON = 4;

        private static final int MAX_DIGITS = 4;
        private static final int ORDERS = 3;
        private static final int BAR_WORDS = 3;

        private final byte[] tape = new byte[MAX_BYTES];
        private int length;
        private final int[] text = new int[RULES];
        private int at;
        private int token;
        private int tokenPlace;
        private int number;
        private int want;
        private int lineRule;
        private int toldRules;
        private int faultKind;
        private int faultPlace = NONE;

        private void append(int four) {
            for (int shift = 24; shift >= 0 && length < MAX_BYTES; shift -= 8) {
                tape[length] = (byte) (four >> shift);
                length++;
            }
        }

        /** Reads THE TAPE and empties it: whether the text is without a FAULT. */
        private boolean readTape() {
            System.arraycopy(PLAIN_TEXT, 0, text, 0, RULES);
            at = 0;
            token = NO_TOKEN;
            want = WANT_LINE;
            toldRules = 0;
            faultKind = 0;
            faultPlace = NONE;
            // Each token but the end takes a byte at least.
            for (int n = 0; n <= length && token != TEXT_END && faultKind == 0; n++) {
                nextToken();
                takeToken();
            }
            length = 0;
            return faultKind == 0;
        }

        private void nextToken() {
            while (at < length && (tape[at] == ' ' || tape[at] == '\n')) {
                at++;
            }
            tokenPlace = at;
            if (at >= length) {
                token = TEXT_END;
            } else if (isLetter(tape[at])) {
                token = WORD;
                skipLetters();
            } else if (isDigit(tape[at])) {
                readNumber();
            } else {
                token = tape[at] == ';' ? SEMICOLON : NO_TOKEN;
                at++;
            }
        }

        private void skipLetters() {
            while (at < length && isLetter(tape[at])) {
                at++;
            }
        }

        private void readNumber() {
            number = 0;
            while (at < length && isDigit(tape[at])) {
                if (at - tokenPlace < MAX_DIGITS) {
                    number = number * 10 + tape[at] - '0';
                }
                at++;
            }
            token = at - tokenPlace > MAX_DIGITS ? NO_TOKEN : NUMBER;
        }

        private static boolean isLetter(byte b) {
            return b >= 'a' && b <= 'z';
        }

        private static boolean isDigit(byte b) {
            return b >= '0' && b <= '9';
        }

        private void takeToken() {
            switch (want) {
                case WANT_LINE:
                    takeFirstWord();
                    break;
                case WANT_NUMBER:
                    takeNumber();
                    break;
                case WANT_ORDER:
                    takeOrder();
                    break;
                case WANT_BAR:
                    takeBar();
                    break;
                default:
                    takeSemicolon();
                    break;
            }
        }

        private void takeFirstWord() {
            if (token == TEXT_END) {
                return;
            }
            lineRule = ruleOfWord();
            if (lineRule == NONE) {
                setFault(SYNTAX);
            } else if (lineRule == BARS) {
                want = WANT_BAR;
            } else if (hasBit(toldRules, lineRule)) {
                setFault(TWICE);
            } else {
                toldRules |= 1 << lineRule;
                want = lineRule == ORDER ? WANT_ORDER : WANT_NUMBER;
            }
        }

        private void takeNumber() {
            if (token != NUMBER) {
                setFault(SYNTAX);
            } else if (number < leastOf(lineRule) || number > greatestOf(lineRule)) {
                setFault(BOUNDS);
            } else {
                text[lineRule] = number;
                want = WANT_SEMICOLON;
            }
        }

        private void takeOrder() {
            int order = orderOfWord();
            if (order == NONE) {
                setFault(SYNTAX);
                return;
            }
            text[ORDER] = order;
            want = WANT_SEMICOLON;
        }

        private void takeBar() {
            int bar = barOfWord();
            if (bar == NONE) {
                setFault(SYNTAX);
            } else if (hasBit(text[BARS], bar)) {
                setFault(TWICE);
            } else {
                text[BARS] |= 1 << bar;
                want = WANT_SEMICOLON;
            }
        }

        private void takeSemicolon() {
            if (token != SEMICOLON) {
                setFault(SYNTAX);
                return;
            }
            want = WANT_LINE;
        }

        private void setFault(int kind) {
            faultKind = kind;
            faultPlace = tokenPlace;
        }

        private static int leastOf(int rule) {
            return rule == MOST ? 1 : 0;
        }

        private static int greatestOf(int rule) {
            if (rule == REST) {
                return 9;
            }
            return rule == MOST ? 30 : 9999;
        }

        private int ruleOfWord() {
            for (int r = 0; r < FIRST_DAY; r++) {
                if (tokenIs(ruleWord(r))) {
                    return r;
                }
            }
            return NONE;
        }

        private int orderOfWord() {
            for (int o = 0; o < ORDERS; o++) {
                if (tokenIs(orderWord(o))) {
                    return o;
                }
            }
            return NONE;
        }

        private int barOfWord() {
            for (int b = 0; b < BAR_WORDS; b++) {
                if (tokenIs(barWord(b))) {
                    return b;
                }
            }
            return NONE;
        }

        private boolean tokenIs(String word) {
            if (token != WORD || at - tokenPlace != word.length()) {
                return false;
            }
            for (int n = 0; n < word.length(); n++) {
                if (tape[tokenPlace + n] != word.charAt(n)) {
                    return false;
                }
            }
            return true;
        }

        private static String ruleWord(int rule) {
            switch (rule) {
                case REACH:
                    return "reach";
                case ASK:
                    return "ask";
                case REST:
                    return "rest";
                case MOST:
                    return "most";
                case NIGHT:
                    return "night";
                case CALL:
                    return "call";
                case MINUTE:
                    return "minute";
                case LATE:
                    return "late";
                case CAP:
                    return "cap";
                case ORDER:
                    return "order";
                default:
                    return "bar";
            }
        }

        private static String orderWord(int order) {
            if (order == BY_NIGHTS) {
                return "nights";
            }
            return order == BY_CALLS ? "calls" : "near";
        }

        private static String barWord(int bar) {
            if (1 << bar == BAR_FELLOW) {
                return "fellow";
            }
            return 1 << bar == BAR_AGAINST ? "against" : "town";
        }
    }

    /** The LAWYERS, when they are AWAY or STRUCK, and the TRAVEL between TOWNS. */
    private static final class People {
        private final int[] town = new int[MAX_LAWYERS];
        private final int[] panels = new int[MAX_LAWYERS];
        private final int[] tongues = new int[MAX_LAWYERS];
        private final int[] struck = new int[MAX_LAWYERS];
        private final int[] taken = new int[MAX_LAWYERS];
        /** By day, a bit for each LAWYER: a row of days for each would take 24 times the room. */
        private final int[] awayBits = new int[DAYS];
        private final int[] minutes = new int[TOWNS * TOWNS];
        private int size;

        private People() {
            Arrays.fill(struck, NONE);
            Arrays.fill(minutes, NONE);
            for (int t = 0; t < TOWNS; t++) {
                minutes[t * TOWNS + t] = WITHIN_TOWN;
            }
        }

        private boolean has(int l) {
            return isBelow(l, size);
        }

        private int add(int itsTown, int itsPanels, int itsTongues) {
            town[size] = itsTown;
            panels[size] = itsPanels;
            tongues[size] = itsTongues;
            size++;
            return size - 1;
        }

        private boolean isOn(int l, int p) {
            return hasBit(panels[l], p);
        }

        private boolean speaks(int l, int tongue) {
            return tongue == NONE || hasBit(tongues[l], tongue);
        }

        private boolean isAway(int l, int day) {
            return hasBit(awayBits[day], l);
        }

        private void turnAway(int l, int day) {
            awayBits[day] ^= 1 << l;
        }

        private boolean isStruck(int l, int day) {
            return struck[l] != NONE && day >= struck[l];
        }

        private boolean isThere(int l, int day) {
            return !hasBit(awayBits[day], l) && !isStruck(l, day);
        }

        private int minutesBetween(int a, int b) {
            return minutes[a * TOWNS + b];
        }

        private void setMinutes(int a, int b, int many) {
            minutes[a * TOWNS + b] = many;
            minutes[b * TOWNS + a] = many;
        }
    }

    /** Who has DUTY, and who MAY have it. */
    private static final class Nights {
        private static final int HOLDER_BITS = 5;
        private static final int HOLDER_MASK = 31;

        private final People people;
        private final Statutes statutes;
        /** By day, five bits for each PANEL: its LAWYER's number and one, or 0. */
        private final int[] holders = new int[DAYS];
        /** By day, a bit for each LAWYER: no one has two DUTIES on a day, so a bit is enough. */
        private final int[] busyBits = new int[DAYS];
        private final int[] duties = new int[MAX_LAWYERS];
        private final int[] tally = new int[MAX_LAWYERS];

        private Nights(People people, Statutes statutes) {
            this.people = people;
            this.statutes = statutes;
        }

        private int holder(int p, int day) {
            return (holders[day] >> p * HOLDER_BITS & HOLDER_MASK) - 1;
        }

        private void put(int p, int day, int l) {
            int before = holder(p, day);
            if (before != NONE) {
                busyBits[day] &= ~(1 << before);
                duties[before]--;
            }
            int shift = p * HOLDER_BITS;
            holders[day] = holders[day] & ~(HOLDER_MASK << shift) | l + 1 << shift;
            if (l != NONE) {
                busyBits[day] |= 1 << l;
                duties[l]++;
            }
        }

        /** Whether it MAY, when nobody has that night. */
        private boolean mayHave(int l, int p, int day) {
            if (!people.isOn(l, p) || !people.isThere(l, day)) {
                return false;
            }
            int[] text = statutes.textNow(day);
            int rest = text[REST];
            return busyDays(l, day - rest, day + rest) == 0 && keepsToMost(l, day, text[MOST]);
        }

        /** Looks at the 30 days in a row that have this night among them: no others get more by it. */
        private boolean keepsToMost(int l, int day, int most) {
            if (duties[l] < most) {
                return true;
            }
            int first = day - WINDOW + 1;
            int many = 1 + busyDays(l, first, day);
            for (int from = first; from <= day; from++) {
                if (many > most) {
                    return false;
                }
                many += busyOn(l, from + WINDOW) - busyOn(l, from);
            }
            return true;
        }

        private int busyDays(int l, int from, int to) {
            int many = 0;
            for (int d = from; d <= to; d++) {
                many += busyOn(l, d);
            }
            return many;
        }

        private int busyOn(int l, int day) {
            return day >= 0 && day < DAYS ? busyBits[day] >> l & 1 : 0;
        }

        /** Gives what a LAWYER had from a day on to others: how many DUTIES these were. */
        private int passOn(int l, int from) {
            int many = 0;
            for (int day = from; day < DAYS; day++) {
                if (busyOn(l, day) == 1) {
                    passOnNight(l, day);
                    many++;
                }
            }
            return many;
        }

        private void passOnNight(int l, int day) {
            for (int p = 0; p < PANELS; p++) {
                if (holder(p, day) == l) {
                    put(p, day, NONE);
                    put(p, day, leastLoaded(p, day));
                }
            }
        }

        private int leastLoaded(int p, int day) {
            int best = NONE;
            for (int l = 0; l < people.size; l++) {
                if ((best == NONE || duties[l] < duties[best]) && mayHave(l, p, day)) {
                    best = l;
                }
            }
            return best;
        }

        /** DUTIES of each up to a day, in one pass over the days for all LAWYERS. */
        private int[] tallyUpTo(int day) {
            Arrays.fill(tally, 0);
            for (int d = 0; d <= day && d < DAYS; d++) {
                if (busyBits[d] != 0) {
                    addToTally(busyBits[d]);
                }
            }
            return tally;
        }

        private void addToTally(int bits) {
            for (int l = 0; l < people.size; l++) {
                tally[l] += bits >> l & 1;
            }
        }

        private int allDuties() {
            int sum = 0;
            for (int l = 0; l < people.size; l++) {
                sum += duties[l];
            }
            return sum;
        }
    }

    /**
     * Chooses a PLAN. Whether a LAWYER MAY hangs on its own DUTIES alone, so it is enough to know
     * which sets of the nights each may have; then the best way to share the nights out is built up
     * LAWYER by LAWYER over the sets of nights given so far, not over all rows.
     *
     * What a way costs is one number: nights of none, then squares, then the row, each in bits
     * above those of the next. All three are sums over the LAWYERS, so the least number is the PLAN.
     */
    private static final class Planner {
        private static final int DIGIT_BITS = 5;
        private static final int DIGIT_MASK = 31;
        private static final int NOBODY = 24;
        private static final int SQUARES_SHIFT = PLAN_NIGHTS * DIGIT_BITS;
        private static final int NONES_SHIFT = 44;
        private static final int SETS = 1 << PLAN_NIGHTS;
        /** Above what any way can cost, and no sum with it wraps around. */
        private static final long NO_WAY = 1L << 60;

        private final People people;
        private final Nights nights;
        private final long[] least = new long[SETS];

        private Planner(People people, Nights nights) {
            this.people = people;
            this.nights = nights;
        }

        private int makePlan(int p, int day, int n) {
            giveSet(p, day, allNights(n), NONE);
            Arrays.fill(least, NO_WAY);
            least[0] = 0;
            for (int l = 0; l < people.size; l++) {
                if (people.isOn(l, p)) {
                    offer(l, n, fittingSets(l, p, day, n));
                }
            }
            return giveRow(p, day, n, leastWay(n));
        }

        private static int allNights(int n) {
            return (1 << n) - 1;
        }

        private void giveSet(int p, int day, int set, int l) {
            for (int j = 0; j < PLAN_NIGHTS; j++) {
                if (hasBit(set, j)) {
                    nights.put(p, day + j, l);
                }
            }
        }

        /** Bit s: it MAY have all nights of the set s, one behind the other. */
        private int fittingSets(int l, int p, int day, int n) {
            int fits = 1;
            for (int last = 0; last < n; last++) {
                for (int ahead = 0; ahead < 1 << last; ahead++) {
                    if (hasBit(fits, ahead) && mayAlso(l, p, day, ahead, last)) {
                        fits |= 1 << (ahead | 1 << last);
                    }
                }
            }
            return fits;
        }

        private boolean mayAlso(int l, int p, int day, int ahead, int last) {
            giveSet(p, day, ahead, l);
            boolean may = nights.mayHave(l, p, day + last);
            giveSet(p, day, ahead, NONE);
            return may;
        }

        /** Greater sets come first, so that none is built on a way that has this LAWYER already. */
        private void offer(int l, int n, int fits) {
            for (int given = allNights(n); given > 0; given--) {
                for (int its = 1; its <= given; its++) {
                    if ((its & given) == its && hasBit(fits, its) && least[given ^ its] != NO_WAY) {
                        long cost = least[given ^ its] + costOf(l, its, n);
                        least[given] = Math.min(least[given], cost);
                    }
                }
            }
        }

        private long costOf(int l, int set, int n) {
            long many = Integer.bitCount(set);
            long squares = many * (2L * nights.duties[l] + many);
            return (squares << SQUARES_SHIFT) + rowOf(l, set, n);
        }

        private static long rowOf(int digit, int set, int n) {
            long row = 0;
            for (int j = 0; j < n; j++) {
                row = (row << DIGIT_BITS) + (hasBit(set, j) ? digit : 0);
            }
            return row;
        }

        private long leastWay(int n) {
            long best = NO_WAY;
            for (int given = 0; given <= allNights(n); given++) {
                if (least[given] != NO_WAY) {
                    best = Math.min(best, least[given] + costOfNone(allNights(n) ^ given, n));
                }
            }
            return best;
        }

        private static long costOfNone(int set, int n) {
            long many = Integer.bitCount(set);
            return (many << NONES_SHIFT) + rowOf(NOBODY, set, n);
        }

        private int giveRow(int p, int day, int n, long way) {
            int nones = 0;
            for (int j = 0; j < n; j++) {
                int digit = (int) (way >> (n - 1 - j) * DIGIT_BITS) & DIGIT_MASK;
                if (people.has(digit)) {
                    nights.put(p, day + j, digit);
                } else {
                    nones++;
                }
            }
            return nones;
        }
    }

    /** One CALL, and what is due for it. */
    private static final class Call {
        private final int day;
        private final int panel;
        private final int town;
        private final int tongue;
        private final int ofCase;
        private final int accused;
        private int state = ASKING;
        private int asked = NONE;
        /** A bit for each LAWYER that was asked, since each is asked once. */
        private int askedBits;
        private int refused;
        private int taker = NONE;
        private int minutesThere;
        private int delay;
        private boolean wasDuty;
        private int settled;

        private Call(int day, int panel, int town, int tongue, int ofCase, int accused) {
            this.day = day;
            this.panel = panel;
            this.town = town;
            this.tongue = tongue;
            this.ofCase = ofCase;
            this.accused = accused;
        }

        private boolean isForSame(Call other) {
            return ofCase == other.ofCase && accused == other.accused;
        }

        private boolean isFellowOf(Call other) {
            return ofCase == other.ofCase && accused != other.accused;
        }

        private boolean isLate(int[] text) {
            return delay > text[REACH];
        }

        private int lineDue(int[] text, int number) {
            if (number < CAP_LINE) {
                return lineBeforeCap(text, number);
            }
            return Math.min(0, text[CAP] - sumBeforeCap(text));
        }

        private int lineBeforeCap(int[] text, int number) {
            switch (number) {
                case 0:
                    return wasDuty ? text[NIGHT] : 0;
                case 1:
                    return text[CALL];
                case 2:
                    return text[MINUTE] * minutesThere * 2;
                default:
                    return isLate(text) ? -text[LATE] : 0;
            }
        }

        private int sumBeforeCap(int[] text) {
            int sum = 0;
            for (int n = 0; n < CAP_LINE; n++) {
                sum += lineBeforeCap(text, n);
            }
            return sum;
        }

        private int sumDue(int[] text) {
            return Math.max(0, Math.min(sumBeforeCap(text), text[CAP]));
        }
    }

    /** The CALLS, who is ASKED in them, and the bars. */
    private static final class Calls {
        private final People people;
        private final Statutes statutes;
        private final Nights nights;
        private final Call[] list = new Call[MAX_CALLS];
        private int size;
        /** By CASE, a bit for each LAWYER. */
        private final int[] against = new int[CASES];
        /** By CASE, a bit for each ACCUSED. */
        private final int[] waived = new int[CASES];

        private Calls(People people, Statutes statutes, Nights nights) {
            this.people = people;
            this.statutes = statutes;
            this.nights = nights;
        }

        private boolean has(int i) {
            return isBelow(i, size);
        }

        private Call get(int i) {
            return list[i];
        }

        private int latestDay() {
            return size == 0 ? 0 : list[size - 1].day;
        }

        private int add(Call one) {
            list[size] = one;
            size++;
            return size - 1;
        }

        private int askNext(int i) {
            Call one = list[i];
            one.asked = whoIsNext(i);
            if (one.asked == NONE) {
                one.state = OPEN;
            } else {
                one.askedBits |= 1 << one.asked;
            }
            return one.asked;
        }

        private int whoIsNext(int i) {
            Call one = list[i];
            int[] text = statutes.textNow(one.day);
            int free = whoMayBeAsked(one, text[BARS]);
            int before = takerBefore(i);
            if (before != NONE && hasBit(free, before)) {
                return before;
            }
            int onNight = nights.holder(one.panel, one.day);
            if (onNight != NONE && hasBit(free, onNight)) {
                return onNight;
            }
            return firstByOrder(one, text[ORDER], free);
        }

        /** A bit for each LAWYER that MAY be asked, and was not yet. */
        private int whoMayBeAsked(Call one, int bars) {
            int free = 0;
            for (int l = 0; l < people.size; l++) {
                if (!hasBit(one.askedBits, l) && reasonsAgainst(one, l, bars) == 0) {
                    free |= 1 << l;
                }
            }
            return free;
        }

        private int takerBefore(int i) {
            for (int j = i - 1; j >= 0; j--) {
                if (list[j].state == TAKEN && list[j].isForSame(list[i])) {
                    return list[j].taker;
                }
            }
            return NONE;
        }

        private int firstByOrder(Call one, int order, int free) {
            int[] tally = order == BY_NIGHTS ? nights.tallyUpTo(one.day) : people.taken;
            int best = NONE;
            int leastSoFar = 0;
            for (int l = 0; l < people.size; l++) {
                int its = order == BY_NIGHTS || order == BY_CALLS ? tally[l] : minutesTo(one, l);
                if (hasBit(free, l) && (best == NONE || its < leastSoFar)) {
                    best = l;
                    leastSoFar = its;
                }
            }
            return best;
        }

        private int minutesTo(Call one, int l) {
            return people.minutesBetween(people.town[l], one.town);
        }

        private int reasonsAgainst(Call one, int l, int bars) {
            int reasons = people.isOn(l, one.panel) ? 0 : 1;
            if (!people.isThere(l, one.day)) {
                reasons |= 2;
            }
            if (!people.speaks(l, one.tongue)) {
                reasons |= 4;
            }
            if (minutesTo(one, l) == NONE) {
                reasons |= 8;
            }
            return reasons | barsThatHold(one, l, bars) << 4;
        }

        private int barsThatHold(Call one, int l, int bars) {
            int hold = 0;
            if ((bars & BAR_FELLOW) != 0 && tookFellow(one, l)) {
                hold |= BAR_FELLOW;
            }
            if ((bars & BAR_AGAINST) != 0 && hasBit(against[one.ofCase], l)) {
                hold |= BAR_AGAINST;
            }
            if ((bars & BAR_TOWN) != 0 && people.town[l] == one.town) {
                hold |= BAR_TOWN;
            }
            return hold;
        }

        private boolean tookFellow(Call one, int l) {
            int free = waived[one.ofCase];
            if (hasBit(free, one.accused)) {
                return false;
            }
            for (int j = 0; j < size; j++) {
                Call other = list[j];
                if (other.taker == l && other.isFellowOf(one) && !hasBit(free, other.accused)) {
                    return true;
                }
            }
            return false;
        }

        private void take(int i) {
            Call one = list[i];
            int l = one.asked;
            one.state = TAKEN;
            one.asked = NONE;
            one.taker = l;
            one.minutesThere = Math.max(0, minutesTo(one, l));
            one.delay = statutes.textNow(one.day)[ASK] * one.refused + one.minutesThere;
            one.wasDuty = nights.holder(one.panel, one.day) == l;
            people.taken[l]++;
        }

        private int settledFor(int l) {
            int sum = 0;
            for (int j = 0; j < size; j++) {
                if (list[j].taker == l) {
                    sum += list[j].settled;
                }
            }
            return sum;
        }

        private int inState(int state) {
            int many = 0;
            for (int j = 0; j < size; j++) {
                if (list[j].state == state) {
                    many++;
                }
            }
            return many;
        }
    }
}
