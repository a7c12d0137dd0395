import java.io.IOException;
import java.nio.file.Files;
import java.nio.file.Path;

/** The example in README.md is the one that runs here, line by line, and answers as its remarks say. */
public final class ReadmeTest {
    private static final String BEGIN = "        // README.md's example begins.\n";
    private static final String END = "        // It ends.\n";

    public static void main(String[] args) throws IOException {
        Due d = new Due();
        example(d);
        String own = Files.readString(Path.of("src/test/java/ReadmeTest.java"));
        String lines = own.substring(own.indexOf(BEGIN, own.indexOf("void example(")) + BEGIN.length());
        String shown = lines.substring(0, lines.indexOf(END)).replaceAll("(?m)^        ", "");
        d.holds("README.md has this example:\n" + shown,
            Files.readString(Path.of("README.md")).contains("```java\n" + shown + "```\n"));
        d.finish();
    }

    private static void example(Due d) {
        // README.md's example begins.
        DutyDesk desk = new DutyDesk();
        int first = desk.enter(0, 1, 3);            // 0: of town 0, on panel 0, with tongues 0 and 1
        int second = desk.enter(1, 1, 1);           // 1: of town 1, on panel 0, with tongue 0
        desk.travel(0, 1, 30);                      // half an hour between the two towns

        // "ask 5;bar town;" from day 5 on: 20 bytes at a time, blanks behind, then cut to its length.
        desk.feed(0x61736b20, 0x353b6261, 0x7220746f, 0x776e3b20, 0x20202020);
        desk.end(15);
        int edition = desk.edition(5);              // 0; if it were NONE, fault(0) and fault(1) would say why

        int bare = desk.plan(0, 5, 4);              // days 5 to 8 of panel 0: 0 nights are left to none
        int holder = desk.onDuty(0, 5);             // 0

        int call = desk.call(5, 100, 0, 0, DutyDesk.NONE, 7, 0);
        int why = desk.barred(call, first);         // 64: it is of the call's town, and that text bars it
        int asked = desk.asked(call);               // 1
        desk.answer(call, true);                    // and it takes the call
        int minutes = desk.told(call, 3);           // 30: it is there half an hour behind the call's minute
        int claim = desk.claim(call, desk.count(1)); // 120, as known with all editions: 60, and 1 a minute both ways
        int paid = desk.pay(call);                  // 120; a later edition may make it more or less
        // It ends.
        d.due("first", first, 0);
        d.due("second", second, 1);
        d.due("edition", edition, 0);
        d.due("bare", bare, 0);
        d.due("holder", holder, 0);
        d.due("why", why, 64);
        d.due("asked", asked, 1);
        d.due("minutes", minutes, 30);
        d.due("claim", claim, 120);
        d.due("paid", paid, 120);
    }
}
