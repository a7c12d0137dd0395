/** THE TAPE of Terms II, and promises 2 (feed) and 3 (end). */
final class TapeEdges {
    private TapeEdges() {
    }

    private static DutyDesk fedTo(int bytes) {
        DutyDesk x = Desks.of(1, 1);
        Due.type(x, "ask 7;" + " ".repeat(bytes - 6));
        return x;
    }

    @Holds(at = "Terms II", says = "THE TAPE has at most 1000 bytes")
    static void atMost1000Bytes(Due d) {
        DutyDesk x = new DutyDesk();
        for (int n = 1; n <= 50; n++) {
            d.due("feed", x.feed(n, n, n, n, n), 20 * n);
        }
        d.due("a 51st", x.feed(0, 0, 0, 0, 0), Due.FULL);
        d.due("bytes", x.count(4), 1000);
        DutyDesk y = new DutyDesk();
        Due.type(y, " ".repeat(993) + "ask 77;");
        d.due("a text to the last byte", y.edition(0), 0);
        d.due("its last line", y.rule(0, 1), 77);
    }

    @Holds(at = "Promise 2: feed", says = "Twenty bytes come behind THE TAPE, the highest of each int first: how many it has")
    static void highestByteFirst(Due d) {
        DutyDesk x = new DutyDesk();
        d.due("'reach 12;ask 3;    '", x.feed(0x72656163, 0x68203132, 0x3b61736b, 0x20333b20, 0x20202020), 20);
        d.due("'cap 9999;rest 9;   '", x.feed(0x63617020, 0x39393939, 0x3b726573, 0x7420393b, 0x20202020), 40);
        d.due("edition", x.edition(0), 0);
        d.due("reach", x.rule(0, 0), 12);
        d.due("ask", x.rule(0, 1), 3);
        d.due("rest", x.rule(0, 2), 9);
        d.due("cap", x.rule(0, 8), 9999);
    }

    @Holds(at = "Promise 2: feed", says = "Twenty bytes")
    static void bytesAbove127AreNoBlanksOrDigits(Due d) {
        // Each would be a right byte if its highest bit were dropped: ' ', ';', '1', 'a', newline.
        int[] bytes = {0xa0, 0xbb, 0xb1, 0xe1, 0x8a};
        for (int b : bytes) {
            DutyDesk x = new DutyDesk();
            x.feed(b << 24 | 0x202020, 0x20202020, 0x20202020, 0x20202020, 0x20202020);
            d.due("byte " + b, x.edition(0), Due.NONE);
            d.due("its kind", x.fault(0), 1);
            d.due("its place", x.fault(1), 0);
        }
        DutyDesk y = new DutyDesk();
        y.feed(-1, Integer.MIN_VALUE, Integer.MAX_VALUE, 0, 0);
        d.due("all bits", y.edition(0), Due.NONE);
        d.due("its place", y.fault(1), 0);
    }

    @Holds(at = "Promise 2: feed", says = "FULL when there would be more than 1000.")
    static void feedIsFullAbove1000(Due d) {
        d.due("behind 980", fedTo(980).feed(0, 0, 0, 0, 0), 1000);
        d.due("behind 979", fedTo(979).feed(0, 0, 0, 0, 0), 999);
        for (int bytes : new int[] {981, 990, 999, 1000}) {
            Desks.refused(d, "feed behind " + bytes, () -> fedTo(bytes), x -> x.feed(0, 0, 0, 0, 0), Due.FULL);
        }
        DutyDesk x = fedTo(1000);
        x.feed(0, 0, 0, 0, 0);
        x.end(980);
        d.due("feed, when there is room again", x.feed(0, 0, 0, 0, 0), 1000);
    }

    @Holds(at = "Promise 3: end", says = "THE TAPE has its first n bytes alone: n")
    static void firstBytesAlone(Due d) {
        DutyDesk x = new DutyDesk();
        Due.type(x, "ask 7;cap 12;x");
        d.due("all of them", x.end(14), 14);
        d.due("but the last", x.end(13), 13);
        d.due("edition", x.edition(0), 0);
        d.due("cap", x.rule(0, 8), 12);
        d.due("an empty one", x.end(0), 0);
        d.due("edition of an empty one", x.edition(0), 1);
        Due.type(x, "ask 7;cap 12;");
        d.due("the first line", x.end(6), 6);
        d.due("feed comes behind it", x.feed(0x6c617465, 0x20333b20, 0x20202020, 0x20202020, 0x20202020), 26);
        d.due("edition", x.edition(0), 2);
        d.due("ask", x.rule(2, 1), 7);
        d.due("late", x.rule(2, 7), 3);
        d.due("cap is gone", x.rule(2, 8), 400);
        for (int n = 1; n <= 50; n++) {
            x.feed(0, 0, 0, 0, 0);
        }
        d.due("1000 of 1000", x.end(1000), 1000);
    }

    @Holds(at = "Promise 3: end", says = "NONE when it has not so many, or n is below 0.")
    static void endRefusesWhatCantBe(Due d) {
        d.due("1 of none", new DutyDesk().end(1), Due.NONE);
        for (int n : Desks.outside(0, 9)) {
            Desks.refused(d, "end(" + n + ") of 9", Desks::busy, x -> x.end(n), Due.NONE);
        }
        DutyDesk x = Desks.busy();
        x.end(3);
        d.due("what was cut comes not back", x.end(4), Due.NONE);
        d.due("1001 of 1000", fedTo(1000).end(1001), Due.NONE);
    }
}
