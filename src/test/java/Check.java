import java.io.IOException;
import java.nio.file.Files;
import java.nio.file.Path;
import java.util.NoSuchElementException;

/** What the tests share: telling wrong answers, and texts put on the tape. */
final class Check {
    /** Stand for an exception where an answer is due; no call answers these. */
    static final long INDEX = Long.MIN_VALUE;
    static final long ELEMENT = Long.MIN_VALUE + 1;

    private static final Path DOCUMENT = Path.of("../shared/DOC.md");

    private static int wrong = 0;
    private static int calls = 0;
    private static String heading = "";
    private static String document = null;

    interface Call {
        long answer();
    }

    private Check() { }

    static void due(String what, long got, long want) {
        calls++;
        if (got != want) {
            wrong++;
            System.out.println(heading + what + " answered " + word(got) + ", due is " + word(want));
        }
    }

    /** What follows tries this sentence, which must stand in the document word for word. */
    static void sentence(String words) {
        heading = "";
        if (!document().isEmpty()) {
            due("the document says '" + words + "'", document().contains(words), true);
        }
        heading = "'" + words + "': ";
    }

    private static String document() {
        if (document == null) {
            try {
                document = Files.readString(DOCUMENT);
            } catch (IOException e) {
                // The answers can be looked at without it; only the quotations can't.
                System.out.println("no document at " + DOCUMENT + ": quotations are not compared");
                document = "";
            }
        }
        return document;
    }

    static void due(String what, boolean got, boolean want) {
        due(what, got ? 1 : 0, want ? 1 : 0);
    }

    static void dueThrow(String what, Call call, long want) {
        due(what, outcome(call), want);
    }

    static long outcome(Call call) {
        try {
            return call.answer();
        } catch (RuntimeException e) {
            // The very classes: an exception of a class below them is the machine's own.
            if (e.getClass() == IndexOutOfBoundsException.class) {
                return INDEX;
            }
            if (e.getClass() == NoSuchElementException.class) {
                return ELEMENT;
            }
            throw e;
        }
    }

    static void finish(String name) {
        System.out.println(name + ": " + calls + " answers, " + wrong + " not as due");
        if (wrong != 0) {
            System.exit(1);
        }
    }

    private static String word(long answer) {
        if (answer == INDEX) {
            return "throws.IndexOutOfBoundsException";
        }
        return answer == ELEMENT ? "throws.NoSuchElementException" : Long.toString(answer);
    }

    /** The five numbers that feed the twenty bytes of a text from a place on, with zeros behind it. */
    static int[] numbers(String text, int from) {
        int[] five = new int[5];
        for (int i = 0; i < 20; i++) {
            int b = from + i < text.length() ? text.charAt(from + i) & 255 : 0;
            five[i / 4] = five[i / 4] << 8 | b;
        }
        return five;
    }

    /** Puts a text on an empty tape. */
    static void tape(SongHour x, String text) {
        for (int from = 0; from < text.length(); from += 20) {
            int[] n = numbers(text, from);
            x.feed(n[0], n[1], n[2], n[3], n[4]);
        }
        x.end(text.length());
    }

    static int rules(SongHour x, String text) {
        tape(x, text);
        return x.rules();
    }

    static int clock(SongHour x, int k, String text) {
        tape(x, text);
        return x.clock(k);
    }

    static String blanks(int n) {
        return " ".repeat(n);
    }

    /** A text of rules on a new object: what it answers, and the kind of its fault. */
    static void dueRules(String text, int want, int fault) {
        SongHour x = new SongHour();
        String name = "rules '" + shown(text) + "'";
        due(name, rules(x, text), want);
        due(name + ": fault()", x.fault(), fault);
        due(name + ": the tape", x.count(6), 0);
    }

    /** A text of a clock on a new object: what it answers, and the kind of its fault. */
    static void dueClock(String text, int want, int fault) {
        SongHour x = new SongHour();
        String name = "clock '" + shown(text) + "'";
        due(name, clock(x, 3, text), want);
        due(name + ": fault()", x.fault(), fault);
        due(name + ": the tape", x.count(6), 0);
        due(name + ": items", x.items(3), Math.max(want, 0));
    }

    private static String shown(String text) {
        StringBuilder all = new StringBuilder();
        for (char c : text.toCharArray()) {
            all.append(c >= 32 && c < 127 ? String.valueOf(c) : "<" + (int) c + ">");
        }
        return all.toString();
    }
}
