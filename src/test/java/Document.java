import java.io.IOException;
import java.nio.file.Files;
import java.nio.file.Path;
import java.util.ArrayList;
import java.util.BitSet;
import java.util.LinkedHashMap;
import java.util.List;
import java.util.Map;
import java.util.regex.Matcher;
import java.util.regex.Pattern;

/** The document in its parts, and which of their words the tests have quoted. */
final class Document {
    private static final Path PLACE = Path.of("../shared/DOC.md");
    private static final Pattern TERM = Pattern.compile("(I|II|III|IV|V)\\. .*");
    private static final Pattern CONSTANT = Pattern.compile("(The constants: )?`[A-Z]+ = -\\d`: .*");
    /** Where a boundary is named: an answer that refuses, a least or greatest number, what is none or first. */
    private static final Pattern BOUNDARY = Pattern.compile("RANGE|FULL|STATE|NONE|-9|\\.\\.|at most|more than|not so many"
        + "|below|above|\\b[Nn]one\\b|\\bNo\\b|\\bno\\b|without|nobody|alone|empty|else|otherwise|if it was|earlier|latest|first"
        + "|last\\b|least|lesser|fewest|behind|ahead|each once|unlike|as far as|twice|\\d+ minutes");

    private final Map<String, String> parts = new LinkedHashMap<>();
    private final Map<String, BitSet> quoted = new LinkedHashMap<>();

    Document() throws IOException {
        String heading = "";
        String part = "";
        for (String line : Files.readAllLines(PLACE)) {
            Matcher term = TERM.matcher(line);
            if (line.startsWith("## ")) {
                heading = line.substring(3);
                part = heading;
            } else if (heading.equals("Terms") && term.matches()) {
                part = "Terms " + term.group(1);
            } else if (heading.equals("Terms") && CONSTANT.matcher(line).matches()) {
                part = "The constants";
            } else if (heading.equals("Terms") && line.startsWith("Ahead of the calls")) {
                part = "Terms";
            }
            parts.merge(part, line + "\n", String::concat);
        }
        parts.keySet().removeIf(name -> name.equals("The public face") || name.equals("Not promised"));
        for (String name : parts.keySet()) {
            quoted.put(name, new BitSet());
        }
    }

    /** Marks the words as held; false unless they stand in that part, and once. */
    boolean quote(String part, String words) {
        String text = parts.get(part);
        if (text == null || words.isEmpty()) {
            return false;
        }
        int at = text.indexOf(words);
        if (at < 0 || text.indexOf(words, at + 1) >= 0) {
            return false;
        }
        quoted.get(part).set(at, at + words.length());
        return true;
    }

    /** Promises without any quote, and boundaries that are named outside of all quotes. */
    List<String> leftOut() {
        List<String> found = new ArrayList<>();
        for (Map.Entry<String, String> part : parts.entrySet()) {
            BitSet marks = quoted.get(part.getKey());
            if (part.getKey().startsWith("Promise") && marks.isEmpty()) {
                found.add(part.getKey() + ": no test at all");
            }
            Matcher m = BOUNDARY.matcher(part.getValue());
            while (isHeld(part.getKey()) && m.find()) {
                if (marks.nextClearBit(m.start()) < m.end()) {
                    found.add(part.getKey() + ": '" + around(part.getValue(), m.start(), m.end()) + "'");
                }
            }
        }
        return found;
    }

    private static boolean isHeld(String part) {
        return part.startsWith("Promise") || part.startsWith("Terms ") || part.equals("The constants");
    }

    private static String around(String text, int from, int to) {
        return text.substring(Math.max(0, from - 25), Math.min(text.length(), to + 25)).replace('\n', ' ');
    }
}
