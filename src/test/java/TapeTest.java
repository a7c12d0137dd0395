/** Promises 2 (feed) and 3 (end), with the bytes that promise 28 counts. */
public final class TapeTest {
    public static void main(String[] args) {
        Due d = new Due();
        grows(d);
        isCut(d);
        highestByteFirst(d);
        d.finish();
    }

    private static void grows(Due d) {
        DutyDesk x = new DutyDesk();
        d.due("count(4) of a new one", x.count(4), 0);
        for (int n = 1; n <= 50; n++) {
            d.due("feed " + n, x.feed(0, -1, 1, 2, 3), 20 * n);
        }
        d.due("feed with 1000", x.feed(0, 0, 0, 0, 0), Due.FULL);
        d.due("count(4)", x.count(4), 1000);
        d.due("end(981)", x.end(981), 981);
        d.due("feed with 981", x.feed(0, 0, 0, 0, 0), Due.FULL);
        d.due("count(4) as it was", x.count(4), 981);
        d.due("end(980)", x.end(980), 980);
        d.due("feed with 980", x.feed(0, 0, 0, 0, 0), 1000);
    }

    private static void isCut(Due d) {
        DutyDesk x = new DutyDesk();
        d.due("end(0) when empty", x.end(0), 0);
        d.due("end(1) when empty", x.end(1), Due.NONE);
        d.due("end(-1)", x.end(-1), Due.NONE);
        d.due("end(min)", x.end(Integer.MIN_VALUE), Due.NONE);
        x.feed(1, 2, 3, 4, 5);
        d.due("end(21)", x.end(21), Due.NONE);
        d.due("end(max)", x.end(Integer.MAX_VALUE), Due.NONE);
        d.due("count(4)", x.count(4), 20);
        d.due("end(20)", x.end(20), 20);
        d.due("end(7)", x.end(7), 7);
        d.due("count(4)", x.count(4), 7);
        d.due("end(8)", x.end(8), Due.NONE);
        d.due("feed behind 7", x.feed(0, 0, 0, 0, 0), 27);
    }

    private static void highestByteFirst(Due d) {
        DutyDesk x = new DutyDesk();
        // "ask 7;" and blanks; then "cap 12;" comes behind what was kept.
        x.feed(0x61736b20, 0x373b2020, 0x20202020, 0x20202020, 0x20202020);
        x.end(6);
        x.feed(0x63617020, 0x31323b0a, 0x0a200a20, 0x20202020, 0x20202020);
        d.due("edition(3)", x.edition(3), 0);
        d.due("ask", x.rule(0, 1), 7);
        d.due("cap", x.rule(0, 8), 12);
    }
}
