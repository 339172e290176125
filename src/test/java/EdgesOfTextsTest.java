/**
 * The tape and the texts: each sentence of the document that names an edge of theirs, with a test of
 * its own (the terms of section 1, promises 1 to 7 and 17).
 */
public final class EdgesOfTextsTest {
    private static final String[] RULES = {"gap", "artist", "keys", "slack", "most"};
    private static final int[] LEAST = {0, 0, 0, 0, 1};
    private static final int[] MOST = {9999, 9999, 6, 900, 4};
    private static final int[] USUAL = {180, 60, 6, 60, 4};

    /** What is no token wherever it stands. */
    private static final String[] NO_TOKENS = {"?", ".", "-1", "Gap", "TALK", "\t", "\r", "_", "00001",
        "12345", "5a", "a5", "gap5", "talk3600", (char) 0 + "", (char) 127 + "", (char) 160 + "",
        (char) 231 + "", (char) 255 + ""};

    private EdgesOfTextsTest() { }

    public static void main(String[] args) {
        newObject();
        feedPutsTwentyBytes();
        feedPutsTheHighestByteFirst();
        feedStopsAt260();
        endKeepsTheFirst();
        endRefuses();
        blanksAreTwoBytes();
        numbersHaveOneToFourDigits();
        wordsAndNumbersGoOn();
        rulesMayBeAnyOfFive();
        rulesHaveBounds();
        rulesHaveTheirUsualNumbers();
        clocksHaveBounds();
        clocksHaveEightItems();
        clocksHave3600Seconds();
        theFirstFaultCounts();
        theLeastOfOneTokenCounts();
        noTokenIsAFault();
        whatCannotComeInRules();
        whatCannotComeInClocks();
        wordsAreTheseAlone();
        rulesEndTooSoon();
        clocksEndTooSoon();
        rulesHave120Bytes();
        clocksHave240Bytes();
        numbersNotAsTold();
        tooMuchIsAFault();
        fewerSecondsAreAFault();
        theTapeIsEmptyThen();
        rulesStay();
        clocksStay();
        clockNumbers();
        faultIsTheLatest();
        ruleNumbers();
        itemNumbers();
        Check.finish("EdgesOfTextsTest");
    }

    private static void newObject() {
        Check.sentence("No SONGS, CLOCKS, PLAYS; RULES as without a text; an empty tape.");
        SongHour x = new SongHour();
        Check.due("songs", x.count(1), 0);
        Check.due("plays", x.count(2), 0);
        Check.due("the tape", x.count(6), 0);
        for (int k = 0; k < 6; k++) {
            Check.due("items(" + k + ")", x.items(k), 0);
        }
        dueUsual(x);
        Check.due("hours", x.count(0), 0);
        Check.dueThrow("play(0, 0)", () -> x.play(0, 0), Check.ELEMENT);
        Check.dueThrow("left(0, 0)", () -> x.left(0, 0), Check.ELEMENT);
        Check.due("rules() of the empty tape", x.rules(), 0);
        SongHour y = new SongHour();
        Check.due("clock(0) of the empty tape", y.clock(0), -1);
    }

    private static void dueUsual(SongHour x) {
        for (int k = 0; k < 5; k++) {
            Check.due("rule(" + k + ")", x.rule(k), USUAL[k]);
        }
    }

    private static void feedPutsTwentyBytes() {
        Check.sentence("Twenty bytes come behind the tape");
        SongHour x = new SongHour();
        Check.tape(x, "slack 77;most 1;g");
        int[] more = Check.numbers("ap 88;artist 9 ;    keys 0;", 0);
        Check.due("behind 17", x.feed(more[0], more[1], more[2], more[3], more[4]), 37);
        Check.due("count(6)", x.count(6), 37);
        Check.due("rules()", x.rules(), 4);
        int[] want = {88, 9, 6, 77, 1};
        for (int k = 0; k < 5; k++) {
            Check.due("rule(" + k + ")", x.rule(k), want[k]);
        }
        Check.due("behind none", x.feed(0, 0, 0, 0, 0), 20);
    }

    private static void feedPutsTheHighestByteFirst() {
        Check.sentence("of each number the highest first");
        // One byte that is no blank, at each of the twenty places: the fault tells where it came.
        for (int place = 0; place < 20; place++) {
            int[] n = {0x20202020, 0x20202020, 0x20202020, 0x20202020, 0x20202020};
            n[place / 4] ^= 0x20 << 8 * (3 - place % 4);
            SongHour x = new SongHour();
            x.feed(n[0], n[1], n[2], n[3], n[4]);
            Check.due("a byte 0 at " + place, x.rules(), -1 - place);
            n[place / 4] |= 0xff << 8 * (3 - place % 4);
            x.feed(n[0], n[1], n[2], n[3], n[4]);
            Check.due("a byte 255 at " + place, x.rules(), -1 - place);
        }
    }

    private static void feedStopsAt260() {
        Check.sentence("NONE, and none come, if it would have more than 260");
        SongHour x = new SongHour();
        for (int i = 1; i <= 13; i++) {
            Check.due("feed " + i, x.feed(i, i, i, i, i), 20 * i);
        }
        Check.due("feed behind 260", x.feed(1, 1, 1, 1, 1), SongHour.NONE);
        Check.due("still 260", x.count(6), 260);
        for (int n = 259; n >= 241; n -= 3) {
            x.end(n);
            Check.due("feed behind " + n, x.feed(1, 1, 1, 1, 1), SongHour.NONE);
            Check.due("still " + n, x.count(6), n);
        }
        x.end(240);
        Check.due("feed behind 240", x.feed(1, 1, 1, 1, 1), 260);
        SongHour y = new SongHour();
        Check.tape(y, "gap 5;" + Check.blanks(235));
        y.feed(-1, -1, -1, -1, -1);
        Check.due("behind 241 it stays", y.count(6), 241);
        Check.due("end(242)", y.end(242), false);
        y.end(120);
        Check.due("none came ahead either", y.rules(), 1);
    }

    private static void endKeepsTheFirst() {
        Check.sentence("The tape has its first n bytes alone: true");
        String text = "gap 1;artist 2;keys 3;slack 4;";
        int[][] want = {{30, 4}, {22, 3}, {15, 2}, {6, 1}, {0, 0}};
        for (int[] pair : want) {
            SongHour x = new SongHour();
            Check.tape(x, text);
            Check.due("end(" + pair[0] + ")", x.end(pair[0]), true);
            Check.due("count(6)", x.count(6), pair[0]);
            Check.due("rules() of " + pair[0], x.rules(), pair[1]);
        }
        SongHour y = new SongHour();
        Check.tape(y, "most 2;most 3;");
        y.end(7);
        y.feed(0x20202020, 0x20202020, 0x20202020, 0x20202020, 0x20202020);
        Check.due("what was cut off does not come again", y.rules(), 1);
        Check.due("most", y.rule(4), 2);
        SongHour z = new SongHour();
        Check.due("end(0) of an empty tape", z.end(0), true);
        fill(z);
        Check.due("end(260) of a full one", z.end(260), true);
        Check.due("all there", z.count(6), 260);
        Check.due("end(259)", z.end(259), true);
        Check.due("one less", z.count(6), 259);
    }

    private static void fill(SongHour x) {
        for (int i = 0; i < 13; i++) {
            x.feed(0x20202020, 0x20202020, 0x20202020, 0x20202020, 0x20202020);
        }
    }

    private static void endRefuses() {
        Check.sentence("false, if it has not so many, or n is below 0");
        SongHour x = new SongHour();
        Check.due("end(1) of an empty tape", x.end(1), false);
        Check.due("end(-1) of an empty tape", x.end(-1), false);
        Check.tape(x, "gap 5;");
        int[] wrong = {7, 20, 260, 261, Integer.MAX_VALUE, -1, -2, Integer.MIN_VALUE};
        for (int n : wrong) {
            Check.due("end(" + n + ")", x.end(n), false);
            Check.due("still six", x.count(6), 6);
        }
        Check.due("they are there", x.rules(), 1);
        Check.due("none are there then", x.end(1), false);
        fill(x);
        Check.due("end(261) of a full one", x.end(261), false);
    }

    private static boolean isLetter(int b) {
        return b >= 'a' && b <= 'z';
    }

    private static boolean isDigit(int b) {
        return b >= '0' && b <= '9';
    }

    private static void blanksAreTwoBytes() {
        Check.sentence("with blanks (32, 10) between them or not");
        Check.dueRules("gap 5;keys 3;", 2, 0);
        Check.dueRules("\n gap \n 5 \n ; \n keys\n3\n;\n ", 2, 0);
        Check.dueClock("talk 9;songs 3591 mood 1 new 1;", 2, 0);
        Check.dueClock(" \ntalk\n9\n;\nsongs\n3591\nmood\n1\nnew\n1\n;\n", 2, 0);
        for (int b = 0; b < 256; b++) {
            byteInRules(b);
            byteInClock(b);
        }
    }

    private static void byteInRules(int b) {
        char c = (char) b;
        boolean isBlank = b == 32 || b == 10;
        boolean goesOn = isLetter(b) || isDigit(b);
        int kind = isBlank ? 0 : 1;
        Check.dueRules("gap" + c + "5;", isBlank ? 1 : goesOn ? -1 : -4, kind);
        Check.dueRules(c + "gap 5;", isBlank ? 1 : -1, kind);
        Check.dueRules("gap 5;" + c, isBlank ? 1 : -7, kind);
        int behindNumber = isBlank || isDigit(b) ? 1 : isLetter(b) ? -5 : b == ';' ? -7 : -6;
        Check.dueRules("gap 5" + c + ";", behindNumber, behindNumber > 0 ? 0 : 1);
    }

    private static void byteInClock(int b) {
        char c = (char) b;
        boolean isBlank = b == 32 || b == 10;
        boolean goesOn = isLetter(b) || isDigit(b);
        int kind = isBlank ? 0 : 1;
        Check.dueClock("talk" + c + "3600;", isBlank ? 1 : goesOn ? -1 : -5, kind);
        Check.dueClock(c + "talk 3600;", isBlank ? 1 : -1, kind);
        Check.dueClock("talk 3600;" + c, isBlank ? 1 : -11, kind);
        int behindNumber = isBlank ? 1 : goesOn ? -6 : b == ';' ? -11 : -10;
        Check.dueClock("talk 3600" + c + ";", behindNumber, kind);
    }

    private static void numbersHaveOneToFourDigits() {
        Check.sentence("NUMBERS: 1 to 4 digits");
        String[] fine = {"0", "9", "00", "10", "000", "100", "0000", "0001", "9999"};
        for (String n : fine) {
            SongHour x = new SongHour();
            Check.due("gap " + n, Check.rules(x, "gap " + n + ";"), 1);
            Check.due("it is " + n, x.rule(0), Integer.parseInt(n));
        }
        String[] wrong = {"00000", "00001", "10000", "99999", "0000000000", "4294967301", "18446744073709551621"};
        for (String n : wrong) {
            Check.dueRules("gap " + n + ";", -5, 1);
            Check.dueClock("talk " + n + ";", -6, 1);
        }
        Check.dueRules("gap ;", -5, 1);
        Check.dueClock("songs 3600 mood 0003 new 0004;", 1, 0);
        Check.dueClock("songs 3600 mood 00003;", -17, 1);
        Check.dueClock("songs 3600 new 00004;", -16, 1);
    }

    private static void wordsAndNumbersGoOn() {
        Check.sentence("A WORD, NUMBER goes on as long as small letters and digits do; what is not as told is no TOKEN.");
        Check.dueRules("gap5;", -1, 1);
        Check.dueRules("gap 5keys 3;", -5, 1);
        Check.dueRules("gap 5;5gap;", -7, 1);
        Check.dueRules("gap 5;keysslack 3;", -7, 1);
        Check.dueRules("gap 1 2;", -7, 1);
        Check.dueClock("songs 3600mood 1;", -7, 1);
        Check.dueClock("songs 3600 mood1;", -12, 1);
        Check.dueClock("songs 3600 mood 1new 1;", -17, 1);
        Check.dueClock("songs 3600 moodnew 1;", -12, 1);
        Check.dueClock("talk 3600;talk3600;", -11, 1);
        Check.dueClock("talk 3 600;", -8, 1);
        Check.dueClock("t alk 3600;", -1, 1);
    }

    private static void rulesMayBeAnyOfFive() {
        Check.sentence("{ WORD NUMBER ; }: gap (0 to 9999 minutes; 180 without it)");
        // Every choice of the five, in both orders.
        for (int mask = 0; mask < 32; mask++) {
            StringBuilder up = new StringBuilder();
            StringBuilder down = new StringBuilder();
            for (int k = 0; k < 5; k++) {
                if ((mask >> k & 1) == 1) {
                    up.append(RULES[k]).append(" ").append(k + 1 < 5 ? k + 1 : 2).append(";");
                    down.insert(0, RULES[k] + " " + (k + 1 < 5 ? k + 1 : 2) + ";");
                }
            }
            dueChoice(mask, up.toString());
            dueChoice(mask, down.toString());
        }
    }

    private static void dueChoice(int mask, String text) {
        SongHour x = new SongHour();
        Check.due("how many of '" + text + "'", Check.rules(x, text), Integer.bitCount(mask));
        for (int k = 0; k < 5; k++) {
            boolean isTold = (mask >> k & 1) == 1;
            Check.due("rule(" + k + ") of '" + text + "'", x.rule(k), isTold ? k + 1 < 5 ? k + 1 : 2 : USUAL[k]);
        }
    }

    private static void rulesHaveBounds() {
        String[] sentences = {"gap (0 to 9999 minutes; 180 without it)", "artist (0 to 9999 minutes; 60)",
            "keys (0 to 6; 6)", "slack (0 to 900 seconds; 60)", "most (1 to 4; 4)"};
        for (int k = 0; k < 5; k++) {
            Check.sentence(sentences[k]);
            int place = RULES[k].length() + 1;
            dueRuleOf(k, LEAST[k]);
            dueRuleOf(k, MOST[k]);
            if (LEAST[k] > 0) {
                Check.dueRules(RULES[k] + " " + (LEAST[k] - 1) + ";", -1 - place, 2);
            }
            // 10000 has a digit too many: it is no token at all.
            int kind = MOST[k] < 9999 ? 2 : 1;
            Check.dueRules(RULES[k] + " " + (MOST[k] + 1) + ";", -1 - place, kind);
            SongHour x = new SongHour();
            Check.rules(x, "");
            Check.due("without it", x.rule(k), USUAL[k]);
        }
    }

    private static void dueRuleOf(int k, int n) {
        SongHour x = new SongHour();
        Check.due(RULES[k] + " " + n, Check.rules(x, RULES[k] + " " + n + ";"), 1);
        Check.due("rule(" + k + ")", x.rule(k), n);
    }

    private static void rulesHaveTheirUsualNumbers() {
        Check.sentence("are the RULES from now on: how many were told");
        SongHour x = new SongHour();
        Check.due("all five", Check.rules(x, "gap 1;artist 2;keys 3;slack 4;most 1;"), 5);
        Check.due("one", Check.rules(x, "keys 2;"), 1);
        int[] want = {180, 60, 2, 60, 4};
        for (int k = 0; k < 5; k++) {
            Check.due("those that were not told again, rule(" + k + ")", x.rule(k), want[k]);
        }
        Check.due("none", Check.rules(x, ""), 0);
        dueUsual(x);
        Check.rules(x, "most 2;");
        Check.due("blanks alone", Check.rules(x, " \n"), 0);
        dueUsual(x);
    }

    private static void clocksHaveBounds() {
        Check.sentence("'talk' NUMBER (1 to 3600) ;");
        Check.dueClock("talk 0;talk 3600;", -6, 2);
        Check.dueClock("talk 1;talk 3599;", 2, 0);
        Check.dueClock("talk 3600;", 1, 0);
        Check.dueClock("talk 3601;", -6, 2);
        Check.dueClock("talk 9999;", -6, 2);
        Check.sentence("'songs' NUMBER (1 to 3600) [ 'mood' NUMBER (0 to 3) ] [ 'new' NUMBER (0 to 4) ] ;");
        Check.dueClock("songs 0;", -7, 2);
        Check.dueClock("songs 1;songs 3599;", 2, 0);
        Check.dueClock("songs 3600;", 1, 0);
        Check.dueClock("songs 3601;", -7, 2);
        for (int n = 0; n <= 6; n++) {
            Check.dueClock("songs 3600 mood " + n + ";", n <= 3 ? 1 : -17, n <= 3 ? 0 : 2);
            Check.dueClock("songs 3600 new " + n + ";", n <= 4 ? 1 : -16, n <= 4 ? 0 : 2);
            Check.dueClock("songs 3600 mood 0 new " + n + ";", n <= 4 ? 1 : -23, n <= 4 ? 0 : 2);
        }
        Check.dueClock("songs 3600 mood 9999;", -17, 2);
        Check.dueClock("songs 3600 new 9999;", -16, 2);
    }

    private static String talks(int n) {
        return "talk 1;".repeat(n);
    }

    private static void clocksHaveEightItems() {
        Check.sentence("{ ITEM }, 8 at most, 3600 seconds together");
        for (int n = 1; n <= 8; n++) {
            Check.dueClock(talks(n - 1) + "songs " + (3601 - n) + ";", n, 0);
        }
        Check.dueClock(talks(8) + "talk 3592;", -57, 3);
        Check.dueClock(talks(8) + "songs 3592;", -57, 3);
        Check.dueClock(talks(7) + "talk 3593;" + "talk 1;", -60, 3);
        Check.dueClock("songs 450;".repeat(8), 8, 0);
        Check.dueClock("songs 400;".repeat(9), -81, 3);
    }

    private static void clocksHave3600Seconds() {
        Check.sentence("8 at most, 3600 seconds together");
        Check.dueClock("talk 1800;songs 1799;", -22, 4);
        Check.dueClock("talk 1800;songs 1800;", 2, 0);
        Check.dueClock("talk 1800;songs 1801;", -17, 3);
        Check.dueClock("songs 1799;talk 1800;", -22, 4);
        Check.dueClock("songs 1801;talk 1800;", -17, 3);
    }

    private static void theFirstFaultCounts() {
        Check.sentence("FAULTS of both, the first along the text");
        Check.dueRules("keys 7;gap ?;", -6, 2);
        Check.dueRules("gap ?;keys 7;", -5, 1);
        Check.dueRules("gap 1;gap 2;keys 7;?", -7, 3);
        Check.dueRules("keys 7;keys 7;", -6, 2);
        Check.dueClock("talk 3600;talk 1;talk ?;", -16, 3);
        Check.dueClock("talk 0;talk 3600;talk 1;", -6, 2);
        Check.dueClock("talk ?", -6, 1);
        Check.dueClock("songs 3601 mood 4 new 5", -7, 2);
        Check.dueClock("songs 36 mood 4 new 5", -15, 2);
        Check.dueClock("songs 36 mood 3 new 5", -21, 2);
        Check.dueClock(talks(7) + "talk 3594;talk", -55, 3);
        Check.dueClock(talks(8) + "talk 3600", -57, 3);
    }

    private static void theLeastOfOneTokenCounts() {
        Check.sentence("of one TOKEN the least");
        // Beyond 3600 in all and more than 3600 (or 0) by itself: 2 is less than 3.
        Check.dueClock("talk 3600;talk 3601;", -16, 2);
        Check.dueClock("talk 3600;talk 0;", -16, 2);
        Check.dueClock("songs 3600;songs 9999;", -18, 2);
        // More than four digits, though it would also be too large: 1 is less than 2 and 3.
        Check.dueClock("talk 3600;talk 36000;", -16, 1);
        Check.dueRules("keys 70000;", -6, 1);
        // The ninth word, when it is no item's: 1 is less than 3.
        Check.dueClock(talks(8) + "mood 1;", -57, 1);
        Check.dueClock(talks(8) + "talk1;", -57, 1);
        Check.dueClock(talks(8) + ";", -57, 1);
        // A rule's word told twice where a number is due: it can't come, 1 is less than 3.
        Check.dueRules("gap gap;", -5, 1);
        Check.dueRules("gap 1 gap 1;", -7, 1);
    }

    private static void noTokenIsAFault() {
        Check.sentence("1 no TOKEN, or one that can't come (at it;");
        String[] inRules = {"", "gap ", "gap 5 ", "gap 5;", "gap 5;keys ", "gap 5;keys 3 "};
        for (String ahead : inRules) {
            cannotComeInRules(ahead, NO_TOKENS);
        }
        String[] inClocks = {"", "talk ", "talk 9 ", "talk 9;", "songs ", "songs 9 ", "songs 9 mood ",
            "songs 9 mood 1 ", "songs 9 new ", "songs 9 new 1 ", "songs 9 mood 1 new ",
            "songs 9 mood 1 new 1 ", "songs 9;", talks(8)};
        for (String ahead : inClocks) {
            cannotComeInClock(ahead, NO_TOKENS);
        }
    }

    private static void cannotComeInRules(String ahead, String... tokens) {
        for (String token : tokens) {
            Check.dueRules(ahead + token, -1 - ahead.length(), 1);
            Check.dueRules(ahead + token + " 1;", -1 - ahead.length(), 1);
        }
    }

    private static void cannotComeInClock(String ahead, String... tokens) {
        for (String token : tokens) {
            Check.dueClock(ahead + token, -1 - ahead.length(), 1);
            Check.dueClock(ahead + token + " 1;", -1 - ahead.length(), 1);
        }
    }

    private static void whatCannotComeInRules() {
        Check.sentence("or one that can't come (at it;");
        cannotComeInRules("", "talk", "songs", "mood", "new", "g", "ga", "gaps", "mos", "key", "slac", "artists", "5", ";");
        cannotComeInRules("gap ", "gap", "artist", "keys", "slack", "most", "x", ";");
        cannotComeInRules("gap 5 ", "gap", "artist", "keys", "x", "5", "0");
        cannotComeInRules("gap 5 ; ", "talk", "songs", "mood", "new", "x", "5", ";");
        cannotComeInRules("gap 1;artist 1;keys 1;slack 1;most 1;", "talk", "x", "1", ";");
    }

    private static void whatCannotComeInClocks() {
        Check.sentence("or one that can't come (at it;");
        cannotComeInClock("", "gap", "mood", "new", "t", "tal", "talks", "song", "songss", "5", ";");
        cannotComeInClock("talk ", "talk", "songs", "mood", "new", "x", ";");
        cannotComeInClock("talk 9 ", "talk", "songs", "mood", "new", "x", "5");
        cannotComeInClock("talk 9 ; ", "mood", "new", "gap", "x", "5", ";");
        cannotComeInClock("songs ", "talk", "songs", "mood", "new", "x", ";");
        cannotComeInClock("songs 9 ", "talk", "songs", "gap", "moo", "moods", "ne", "news", "5");
        cannotComeInClock("songs 9 mood ", "talk", "songs", "mood", "new", "x", ";");
        cannotComeInClock("songs 9 mood 1 ", "talk", "songs", "mood", "x", "5");
        cannotComeInClock("songs 9 new ", "talk", "songs", "mood", "new", "x", ";");
        cannotComeInClock("songs 9 new 1 ", "talk", "songs", "mood", "new", "x", "5");
        cannotComeInClock("songs 9 mood 1 new ", "talk", "songs", "mood", "new", "x", ";");
        cannotComeInClock("songs 9 mood 1 new 1 ", "talk", "songs", "mood", "new", "x", "5");
        cannotComeInClock("songs 9 mood 1 new 1 ; ", "mood", "new", "x", "5", ";");
    }

    private static void wordsAreTheseAlone() {
        Check.sentence("or one that can't come (at it;");
        for (String word : RULES) {
            cannotComeInRules("", nearly(word));
            cannotComeInRules((word.equals("gap") ? "most" : "gap") + " 1;", nearly(word));
        }
        cannotComeInClock("", nearly("talk"));
        cannotComeInClock("talk 5;", nearly("songs"));
        cannotComeInClock("songs 5 ", nearly("mood"));
        cannotComeInClock("songs 5 ", nearly("new"));
        cannotComeInClock("songs 5 mood 2 ", nearly("new"));
    }

    /** The word with another letter at each place, and with one less or more at either end. */
    private static String[] nearly(String word) {
        int n = word.length();
        String[] all = new String[n + 4];
        for (int i = 0; i < n; i++) {
            char other = word.charAt(i) == 'z' ? 'a' : (char) (word.charAt(i) + 1);
            all[i] = word.substring(0, i) + other + word.substring(i + 1);
        }
        all[n] = word.substring(1);
        all[n + 1] = word.substring(0, n - 1);
        all[n + 2] = word + word.charAt(n - 1);
        all[n + 3] = word.charAt(0) + word;
        return all;
    }

    private static void rulesEndTooSoon() {
        Check.sentence("the end: how many bytes there are;");
        String text = "gap 12;keys 3;";
        int[] want = {0, -1, -1, -4, -5, -6, -7, 1, -8, -8, -8, -12, -13, -14, 2};
        for (int n = 0; n <= text.length(); n++) {
            Check.dueRules(text.substring(0, n), want[n], want[n] < 0 ? 1 : 0);
        }
        Check.dueRules("gap" + Check.blanks(17), -21, 1);
        Check.dueRules("gap 5" + Check.blanks(115), -121, 1);
        Check.dueRules(Check.blanks(117) + "gap", -121, 1);
    }

    private static void clocksEndTooSoon() {
        Check.sentence("the end: how many bytes there are;");
        String text = "talk 600;songs 3000 mood 1 new 2;";
        for (int n = 0; n <= text.length(); n++) {
            Check.dueClock(text.substring(0, n), cutAnswer(n), n == 33 ? 0 : n == 0 || n == 9 ? 4 : 1);
        }
        Check.dueClock("talk 3600" + Check.blanks(231), -241, 1);
        Check.dueClock(Check.blanks(236) + "talk", -241, 1);
    }

    /** A word that is cut is a wrong word where it begins; else the end is what can't come. */
    private static int cutAnswer(int n) {
        if (n == 33) {
            return 2;
        }
        int[][] cutWords = {{0, 4}, {9, 14}, {20, 24}, {27, 30}};
        for (int[] word : cutWords) {
            if (n > word[0] && n < word[1]) {
                return -1 - word[0];
            }
        }
        return -1 - n;
    }

    private static String padded(String text, int size) {
        return text + Check.blanks(size - text.length());
    }

    private static void rulesHave120Bytes() {
        Check.sentence("RULES are a text of at most 120 bytes");
        String all = "gap 5;artist 5;keys 5;slack 5;most 1;";
        Check.dueRules(padded(all, 119), 5, 0);
        Check.dueRules(padded(all, 120), 5, 0);
        Check.dueRules(padded(all, 121), -121, 1);
        Check.dueRules(padded(all, 240), -121, 1);
        Check.dueRules(padded(all, 260), -121, 1);
        Check.dueRules(Check.blanks(114) + "gap 5;", 1, 0);
        Check.dueRules(Check.blanks(115) + "gap 5;", -121, 1);
        Check.dueRules(Check.blanks(120), 0, 0);
        Check.dueRules(Check.blanks(121), -121, 1);
        Check.sentence("120, 240, if there are more and no FAULT is ahead");
        Check.dueRules(padded("gap 5;?", 121), -7, 1);
        Check.dueRules(padded("gap 5;", 119) + "??", -120, 1);
        Check.dueRules(padded("gap 5;", 120) + "?", -121, 1);
        Check.dueRules(padded("gap 5;keys 7;", 121), -12, 2);
        Check.dueRules(padded("gap 5;gap 5;", 121), -7, 3);
        Check.dueRules(padded("gap", 121), -121, 1);
        Check.dueRules(padded("gap 5", 121), -121, 1);
        Check.dueRules(padded("gap", 120) + "5;", -121, 1);
        Check.sentence("TOKENS that begin ahead of it are read whole");
        Check.dueRules(padded("keys", 119) + "6;", -121, 1);
        Check.dueRules(padded("keys", 119) + "66;", -120, 2);
        Check.dueRules(padded("keys", 119) + "0006;", -121, 1);
        Check.dueRules(padded("keys", 119) + "00006;", -120, 1);
        Check.dueRules(padded("keys", 119) + "6a", -120, 1);
        Check.dueRules(padded("keys", 119) + "6" + "a".repeat(140), -120, 1);
        Check.dueRules(padded("keys", 120) + "7;", -121, 1);
        Check.dueRules(padded("gap 5;", 119) + "gap 5;", -120, 3);
        Check.dueRules(padded("gap 5;", 119) + "gaps 5;", -120, 1);
        Check.dueRules(padded("gap 5;", 119) + "keys 7;", -121, 1);
        Check.dueRules(padded("gap 5;", 120) + "gap 5;", -121, 1);
    }

    private static void clocksHave240Bytes() {
        Check.sentence("are texts of at most 240 bytes");
        Check.dueClock(padded("talk 3600;", 239), 1, 0);
        Check.dueClock(padded("talk 3600;", 240), 1, 0);
        Check.dueClock(padded("talk 3600;", 241), -241, 1);
        Check.dueClock(padded("talk 3600;", 260), -241, 1);
        Check.dueClock(Check.blanks(230) + "talk 3600;", 1, 0);
        Check.dueClock(Check.blanks(231) + "talk 3600;", -241, 1);
        Check.dueClock(padded("", 241), -241, 1);
        Check.sentence("120, 240, if there are more and no FAULT is ahead");
        Check.dueClock(padded("talk 3600;", 239) + "?;", -240, 1);
        Check.dueClock(padded("talk 3600;", 240) + "?", -241, 1);
        Check.dueClock(padded("talk 3601;", 241), -6, 2);
        Check.dueClock(padded("talk 3600;talk 1;", 241), -16, 3);
        Check.dueClock(padded(talks(9), 241), -57, 3);
        Check.dueClock(padded("songs 3600 mood", 241), -241, 1);
        Check.dueClock(padded("songs 3600 new 1", 241), -241, 1);
        Check.sentence("TOKENS that begin ahead of it are read whole");
        Check.dueClock(padded("talk", 239) + "3600;", -241, 1);
        Check.dueClock(padded("talk", 239) + "3601;", -240, 2);
        Check.dueClock(padded("talk", 239) + "03600;", -240, 1);
        Check.dueClock(padded("talk", 240) + "3601;", -241, 1);
        Check.dueClock(padded("talk 3600;talk", 239) + "12;", -240, 3);
        Check.dueClock(padded("talk 3600;talk", 240) + "12;", -241, 1);
        Check.dueClock(padded(talks(8), 239) + "songs 1;", -240, 3);
        Check.dueClock(padded(talks(8), 240) + "songs 1;", -241, 1);
        Check.dueClock(padded(talks(8), 239) + "songst 1;", -240, 1);
        Check.dueClock(padded("songs 3600", 239) + "moody", -240, 1);
        Check.dueClock(padded("songs 3600", 239) + "mood 9", -241, 1);
    }

    private static void numbersNotAsTold() {
        Check.sentence("2 a NUMBER that is not as told (at it)");
        Check.dueRules("  most \n 5;", -10, 2);
        Check.dueRules("gap 1;slack 0901;", -13, 2);
        Check.dueRules("keys 7", -6, 2);
        Check.dueRules("keys 7?", -6, 2);
        Check.dueClock("talk 9;songs 0;", -14, 2);
        Check.dueClock("songs 9 mood \n4", -15, 2);
        Check.dueClock("songs 9 mood 3 new 0005", -20, 2);
    }

    private static void tooMuchIsAFault() {
        Check.sentence("3 a RULE told twice (at its WORD), a ninth ITEM (at its WORD), seconds beyond 3600 (at the NUMBER with which they are)");
        for (int k = 0; k < 5; k++) {
            String rule = RULES[k] + " 1;";
            Check.dueRules(rule + rule, -1 - rule.length(), 3);
            Check.dueRules(rule + " \n" + RULES[k], -3 - rule.length(), 3);
            Check.dueRules(rule + RULES[k] + " ?", -1 - rule.length(), 3);
        }
        Check.dueRules("gap 1;artist 1;keys 1;slack 1;most 1;gap 1;", -38, 3);
        Check.dueClock(talks(8) + " talk", -58, 3);
        Check.dueClock(talks(8) + "songs ?", -57, 3);
        Check.dueClock("talk 3599;talk 1;songs", -23, 1);
        Check.dueClock("talk 3599;talk 1;songs \n1", -25, 3);
        Check.dueClock("talk 3599;talk 2", -16, 3);
        Check.dueClock("talk 3600;songs 3600 mood 9;", -17, 3);
    }

    private static void fewerSecondsAreAFault() {
        Check.sentence("Else, of a CLOCK: 4 fewer than 3600 seconds (at how many bytes there are).");
        Check.dueClock("", -1, 4);
        Check.dueClock("\n", -2, 4);
        Check.dueClock("talk 3599;", -11, 4);
        Check.dueClock("talk 3599; \n", -13, 4);
        Check.dueClock(padded("talk 3599;", 240), -241, 4);
        Check.dueClock(padded("talk 3599;", 241), -241, 1);
        Check.dueClock("talk 3599;?", -11, 1);
        Check.dueClock("talk 3599", -10, 1);
        Check.dueClock("talk 1;".repeat(8), -57, 4);
        Check.dueRules("", 0, 0);
    }

    private static void theTapeIsEmptyThen() {
        Check.sentence("The tape (empty then, here and below)");
        SongHour x = new SongHour();
        String[] texts = {"gap 5;", "gap 5", "keys 7;", "gap 5;gap 5;", padded("gap 5;", 260)};
        for (String text : texts) {
            Check.rules(x, text);
            Check.due("behind rules '" + text + "'", x.count(6), 0);
            Check.due("nothing is left of it", x.rules(), 0);
        }
        String[] clocks = {"talk 3600;", "talk 3600", "talk 3601;", "talk 3600;talk 1;", "talk 1;", padded("talk 3600;", 260)};
        for (String text : clocks) {
            Check.clock(x, 0, text);
            Check.due("behind clock '" + text + "'", x.count(6), 0);
            Check.due("nothing is left of it", x.rules(), 0);
        }
    }

    private static void rulesStay() {
        Check.sentence("-1 less the place of a FAULT: they stay.");
        SongHour x = new SongHour();
        Check.rules(x, "gap 7;artist 8;keys 5;slack 9;most 3;");
        String[] texts = {"gap 1;artist 1;keys 1;slack 1;most 1;?", "gap 1;keys 7;", "most 1;slack 2;most 1;",
            "gap 1", "?", padded("gap 1;most 1;", 121)};
        int[] places = {37, 11, 15, 5, 0, 120};
        int[] want = {7, 8, 5, 9, 3};
        for (int i = 0; i < texts.length; i++) {
            Check.due("rules '" + texts[i] + "'", Check.rules(x, texts[i]), -1 - places[i]);
            for (int k = 0; k < 5; k++) {
                Check.due("rule(" + k + ") then", x.rule(k), want[k]);
            }
        }
    }

    private static void clocksStay() {
        Check.sentence("CLOCK k is the tape: how many ITEMS; -1 less the place of a FAULT: it stays.");
        String[] texts = {"songs 100;talk 3500;?", "songs 100;talk 3501;", "songs 100;talk 9999;", "songs 100;",
            "", padded("songs 3600;", 241), "songs 450 mood 2 new 1;".repeat(8) + "talk 1;"};
        int[] places = {20, 15, 15, 10, 0, 240, 184};
        SongHour x = new SongHour();
        Check.due("clock(2)", Check.clock(x, 2, "talk 3000;songs 250;songs 350;"), 3);
        for (int i = 0; i < texts.length; i++) {
            Check.due("clock '" + texts[i] + "'", Check.clock(x, 2, texts[i]), -1 - places[i]);
            Check.due("items(2)", x.items(2), 3);
            Check.due("lay(2)", x.lay(2), 0);
            int[] left = {0, 250, 350};
            for (int j = 0; j < 3; j++) {
                Check.due("left(" + i + ", " + j + ")", x.left(i, j), left[j]);
            }
        }
        for (int k = 0; k < 6; k++) {
            Check.due("items(" + k + ")", x.items(k), k == 2 ? 3 : 0);
        }
        Check.due("told anew", Check.clock(x, 2, "songs 3600;"), 1);
        Check.due("items then", x.items(2), 1);
    }

    private static void clockNumbers() {
        Check.sentence("IndexOutOfBoundsException: k is not 0 to 5 (the tape stays).");
        SongHour x = new SongHour();
        Check.tape(x, "talk 3600;");
        int[] wrong = {-1, 6, 7, Integer.MIN_VALUE, Integer.MAX_VALUE};
        for (int k : wrong) {
            Check.dueThrow("clock(" + k + ")", () -> x.clock(k), Check.INDEX);
            Check.due("the tape", x.count(6), 10);
        }
        for (int k = 0; k < 6; k++) {
            Check.due("items(" + k + ")", x.items(k), 0);
        }
        Check.due("clock(5)", x.clock(5), 1);
        Check.due("clock(0)", Check.clock(x, 0, "talk 3600;"), 1);
        // A faulty tape, too, is not so much as looked at.
        Check.tape(x, "?");
        Check.dueThrow("clock(6) of a fault", () -> x.clock(6), Check.INDEX);
        Check.due("no fault", x.fault(), 0);
        Check.due("the tape", x.count(6), 1);
    }

    private static void faultIsTheLatest() {
        Check.sentence("The kind of the FAULT of the latest rules() or clock() that did not throw; 0 without one and ahead of any.");
        SongHour x = new SongHour();
        Check.due("ahead of any", x.fault(), 0);
        Check.dueThrow("clock(6)", () -> x.clock(6), Check.INDEX);
        Check.due("ahead of any that did not throw", x.fault(), 0);
        String[] clocks = {"?", "talk 0;", "talk 3600;talk 1;", "talk 1;", "talk 3600;"};
        int[] kinds = {1, 2, 3, 4, 0};
        for (int i = 0; i < clocks.length; i++) {
            Check.clock(x, 0, clocks[i]);
            Check.due("behind clock '" + clocks[i] + "'", x.fault(), kinds[i]);
            Check.tape(x, "keys 7;");
            Check.dueThrow("clock(-1)", () -> x.clock(-1), Check.INDEX);
            Check.due("and behind one that threw", x.fault(), kinds[i]);
            x.end(0);
        }
        String[] rules = {"?", "keys 7;", "gap 1;gap 1;", ""};
        for (int i = 0; i < rules.length; i++) {
            Check.clock(x, 0, "talk 1;");
            Check.rules(x, rules[i]);
            Check.due("behind rules '" + rules[i] + "'", x.fault(), i < 3 ? i + 1 : 0);
        }
        Check.rules(x, "?");
        Check.clock(x, 1, "talk 3600;");
        Check.due("a clock without one, behind rules with one", x.fault(), 0);
    }

    private static void ruleNumbers() {
        Check.sentence("RULE k now (0 to 4: gap, artist, keys, slack, most). NONE for another k.");
        SongHour x = new SongHour();
        Check.rules(x, "gap 11;artist 12;keys 3;slack 14;most 2;");
        int[] want = {11, 12, 3, 14, 2};
        for (int k = 0; k < 5; k++) {
            Check.due("rule(" + k + ")", x.rule(k), want[k]);
        }
        int[] wrong = {-1, 5, 6, Integer.MIN_VALUE, Integer.MAX_VALUE};
        for (int k : wrong) {
            Check.due("rule(" + k + ")", x.rule(k), SongHour.NONE);
        }
    }

    private static void itemNumbers() {
        Check.sentence("Of CLOCK k: how many ITEMS. IndexOutOfBoundsException: k is not 0 to 5.");
        SongHour x = new SongHour();
        for (int k = 0; k < 6; k++) {
            Check.due("none told, items(" + k + ")", x.items(k), 0);
            Check.clock(x, k, talks(k + 2 - 1) + "talk " + (3600 - k - 1) + ";");
            Check.due("items(" + k + ")", x.items(k), k + 2);
        }
        int[] wrong = {-1, 6, 7, Integer.MIN_VALUE, Integer.MAX_VALUE};
        for (int k : wrong) {
            Check.dueThrow("items(" + k + ")", () -> x.items(k), Check.INDEX);
        }
    }
}
