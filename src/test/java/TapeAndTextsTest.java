/** Promises 1 to 7 and 17: the tape, the texts of rules and clocks, and their faults. */
public final class TapeAndTextsTest {
    private TapeAndTextsTest() { }

    public static void main(String[] args) {
        aNewObjectIsEmpty();
        feedPutsTwentyBytesBehind();
        endCutsTheTape();
        rulesAreTold();
        rulesHaveFaults();
        rulesHaveALimit();
        clocksAreTold();
        clocksHaveFaults();
        clocksHaveALimit();
        faultIsTheLatestCalls();
        ruleKnowsFive();
        itemsKnowsSixClocks();
        Check.finish("TapeAndTextsTest");
    }

    private static void aNewObjectIsEmpty() {
        SongHour x = new SongHour();
        for (int what = 0; what <= 6; what++) {
            Check.due("new: count(" + what + ")", x.count(what), 0);
        }
        int[] usual = {180, 60, 6, 60, 4};
        for (int k = 0; k < 5; k++) {
            Check.due("new: rule(" + k + ")", x.rule(k), usual[k]);
        }
        for (int k = 0; k < 6; k++) {
            Check.due("new: items(" + k + ")", x.items(k), 0);
            Check.due("new: lay(" + k + ")", x.lay(k), SongHour.NONE);
        }
        Check.due("new: fault()", x.fault(), 0);
        Check.due("new: told(0, 0)", x.told(0, 0), -2);
        Check.due("NONE", SongHour.NONE, -1);
    }

    private static void feedPutsTwentyBytesBehind() {
        SongHour x = new SongHour();
        // "gap 7;" and fourteen blanks: the highest byte of each number comes first.
        Check.due("feed", x.feed(0x67617020, 0x373b2020, 0x20202020, 0x20202020, 0x20202020), 20);
        Check.due("rules()", x.rules(), 1);
        Check.due("rule(0)", x.rule(0), 7);
        for (int i = 1; i <= 13; i++) {
            Check.due("feed " + i, x.feed(-1, 0, 1, 2, 3), 20 * i);
        }
        Check.due("feed beyond 260", x.feed(0, 0, 0, 0, 0), SongHour.NONE);
        Check.due("none came", x.count(6), 260);
        x.end(241);
        Check.due("feed to 261", x.feed(0, 0, 0, 0, 0), SongHour.NONE);
        Check.due("none came to 241", x.count(6), 241);
        x.end(240);
        Check.due("feed to 260", x.feed(0, 0, 0, 0, 0), 260);
        x.end(0);
        // All five numbers, one behind the other, behind what is on the tape: "gap 12" + "34;..."
        Check.tape(x, "most 3;artist 12");
        Check.due("feed behind sixteen", x.feed(0x33343b67, 0x61702035, 0x3b6b6579, 0x7320343b, 0x0a0a0a0a), 36);
        Check.due("rules() of both", x.rules(), 4);
        Check.due("most", x.rule(4), 3);
        Check.due("artist", x.rule(1), 1234);
        Check.due("gap", x.rule(0), 5);
        Check.due("keys", x.rule(2), 4);
    }

    private static void endCutsTheTape() {
        SongHour x = new SongHour();
        Check.due("end(0) of none", x.end(0), true);
        Check.due("end(1) of none", x.end(1), false);
        Check.due("end(-1)", x.end(-1), false);
        x.feed(0, 0, 0, 0, 0);
        Check.due("end(21)", x.end(21), false);
        Check.due("stays", x.count(6), 20);
        Check.due("end(-2147483648)", x.end(Integer.MIN_VALUE), false);
        Check.due("end(20)", x.end(20), true);
        Check.due("end(7)", x.end(7), true);
        Check.due("seven", x.count(6), 7);
        Check.due("end(8)", x.end(8), false);
        x.end(0);
        Check.tape(x, "slack 9000;");
        x.end(9);
        Check.due("what was cut off is not read", x.rules(), -10);
        Check.due("900 is fine, the end is not", x.fault(), 1);
    }

    private static void rulesAreTold() {
        Check.dueRules("", 0, 0);
        Check.dueRules(" \n ", 0, 0);
        Check.dueRules("gap 0;artist 0;keys 0;slack 0;most 1;", 5, 0);
        Check.dueRules("most 4;slack 900;keys 6;artist 9999;gap 9999;", 5, 0);
        Check.dueRules("\ngap\n0009\n;\n \nkeys 1 ; ", 2, 0);
        SongHour x = new SongHour();
        Check.rules(x, "gap 1;artist 2;keys 3;slack 4;most 2;");
        int[] want = {1, 2, 3, 4, 2};
        for (int k = 0; k < 5; k++) {
            Check.due("told: rule(" + k + ")", x.rule(k), want[k]);
        }
        Check.due("a fault", Check.rules(x, "gap 5;keys 9;"), -12);
        Check.due("they stay", x.rule(0), 1);
        Check.rules(x, "keys 2;");
        Check.due("not told again: as without it", x.rule(0), 180);
        Check.due("keys 2", x.rule(2), 2);
        Check.rules(x, "");
        Check.due("none told", x.rule(2), 6);
    }

    private static void rulesHaveFaults() {
        Check.dueRules("gap", -4, 1);
        Check.dueRules("gap  ", -6, 1);
        Check.dueRules("gap 5", -6, 1);
        Check.dueRules("gap;", -4, 1);
        Check.dueRules("gap gap", -5, 1);
        Check.dueRules("gap 5 5;", -7, 1);
        Check.dueRules("gap 12345;", -5, 1);
        Check.dueRules("gap 00001;", -5, 1);
        Check.dueRules("gap5;", -1, 1);
        Check.dueRules("gap 5a;", -5, 1);
        Check.dueRules("gap 5A;", -6, 1);
        Check.dueRules("gap\t5;", -4, 1);
        Check.dueRules("gap 5\r;", -6, 1);
        Check.dueRules("5;", -1, 1);
        Check.dueRules(";", -1, 1);
        Check.dueRules("  ga 5;", -3, 1);
        Check.dueRules("talk 5;", -1, 1);
        Check.dueRules("gap 5;" + (char) 225, -7, 1);
        Check.dueRules("gap -5;", -5, 1);
        Check.dueRules("most ?;", -6, 1);
        Check.dueRules("gapz 1;", -1, 1);
        Check.dueRules("zap 1;", -1, 1);
        Check.dueRules("gaq 1;", -1, 1);
        Check.dueRules("most 1/;", -7, 1);
        Check.dueRules("most 1:;", -7, 1);
        Check.dueRules("most`1;", -5, 1);
        Check.dueRules("most{1;", -5, 1);
        Check.dueRules("keys 7;", -6, 2);
        Check.dueRules("slack 0901;", -7, 2);
        Check.dueRules("most 0;", -6, 2);
        Check.dueRules("most 5 x", -6, 2);
        Check.dueRules("gap 1;keys 2;gap 3;", -14, 3);
        Check.dueRules("gap 1;gap", -7, 3);
        Check.dueRules("gap 1; gap 99999;", -8, 3);
        Check.dueRules("gap 1;gaps 1;", -7, 1);
        Check.dueRules("gap 1;artist 1;keys 1;slack 1;most 1;x", -38, 1);
        Check.dueRules("gap 1;artist 1;keys 1;slack 1;most 1;most", -38, 3);
    }

    private static void rulesHaveALimit() {
        String five = "gap 5;";
        Check.dueRules(five + Check.blanks(114), 1, 0);
        Check.dueRules(five + Check.blanks(115), -121, 1);
        Check.dueRules(five + Check.blanks(254), -121, 1);
        Check.dueRules(five + Check.blanks(114) + "?", -121, 1);
        Check.dueRules(five + Check.blanks(113) + "?", -120, 1);
        Check.dueRules(five + Check.blanks(113) + "? ", -120, 1);
        // A token that begins ahead of byte 120 is read whole: no fault but the limit's.
        Check.dueRules(Check.blanks(113) + "keys 6;;", -121, 1);
        Check.dueRules(Check.blanks(114) + "keys 66;", -120, 2);
        Check.dueRules(Check.blanks(114) + "keys 12345", -120, 1);
        Check.dueRules(Check.blanks(114) + "keys 0006", -121, 1);
        Check.dueRules(Check.blanks(118) + "keys 7;", -121, 1);
        Check.dueRules(Check.blanks(118) + "keyz 7;", -119, 1);
        Check.dueRules(Check.blanks(113) + "gap;", -117, 1);
        Check.dueRules(Check.blanks(120), 0, 0);
        Check.dueRules(Check.blanks(117) + "gap", -121, 1);
        Check.dueRules(five + Check.blanks(111) + "gap 1;", -118, 3);
        Check.dueRules(five + Check.blanks(114) + "gap 1;", -121, 1);
    }

    private static void clocksAreTold() {
        Check.dueClock("talk 3600;", 1, 0);
        Check.dueClock("songs 3600;", 1, 0);
        Check.dueClock("talk 1;songs 3599 mood 0 new 0;", 2, 0);
        Check.dueClock("songs 1 mood 3;songs 3599 new 4;", 2, 0);
        Check.dueClock("\nsongs\n0100\nmood\n0003\nnew\n0004\n;\ntalk 3500 ;\n", 2, 0);
        Check.dueClock("talk 450;talk 450;talk 450;talk 450;talk 450;talk 450;talk 450;talk 450;", 8, 0);
        Check.dueClock("talk 1;talk 1;talk 1;talk 1;talk 1;talk 1;talk 1;talk 3593;", 8, 0);
        SongHour x = new SongHour();
        Check.clock(x, 5, "talk 1000;talk 2600;");
        Check.due("a clock of two", x.items(5), 2);
        Check.due("a fault", Check.clock(x, 5, "talk 1000;"), -11);
        Check.due("it stays", x.items(5), 2);
        Check.due("another is not told", x.items(4), 0);
        Check.clock(x, 5, "talk 3600;");
        Check.due("told anew", x.items(5), 1);
        Check.due("the lowest", Check.clock(x, 0, "talk 3600;"), 1);
        Check.tape(x, "talk 3600;");
        Check.dueThrow("clock(6)", () -> x.clock(6), Check.INDEX);
        Check.dueThrow("clock(-1)", () -> x.clock(-1), Check.INDEX);
        Check.dueThrow("clock(2147483647)", () -> x.clock(Integer.MAX_VALUE), Check.INDEX);
        Check.due("the tape stays", x.count(6), 10);
        Check.due("and is read then", x.clock(1), 1);
    }

    private static void clocksHaveFaults() {
        Check.dueClock("", -1, 4);
        Check.dueClock("  ", -3, 4);
        Check.dueClock("talk 3599; ", -12, 4);
        Check.dueClock("talk 3601;", -6, 2);
        Check.dueClock("talk 0;", -6, 2);
        Check.dueClock("talk 10000;", -6, 1);
        Check.dueClock("songs 0;", -7, 2);
        Check.dueClock("songs 9999;", -7, 2);
        Check.dueClock("talk 3600;talk 1;", -16, 3);
        Check.dueClock("talk 3600;talk", -15, 1);
        Check.dueClock("talk 3600;talk 0;", -16, 2);
        Check.dueClock("talk 3600;talk 3601;", -16, 2);
        Check.dueClock("songs 3000;songs 601", -18, 3);
        Check.dueClock("talk 3600", -10, 1);
        Check.dueClock("talk;", -5, 1);
        Check.dueClock("gap 3600;", -1, 1);
        Check.dueClock("talks 3600;", -1, 1);
        Check.dueClock("song 3600;", -1, 1);
        Check.dueClock("talk 3600 new 1;", -11, 1);
        Check.dueClock("talk 3600 mood 1;", -11, 1);
        Check.dueClock("songs 3600 mood;", -16, 1);
        Check.dueClock("songs 3600 mood 4;", -17, 2);
        Check.dueClock("songs 3600 mood 3 mood 3;", -19, 1);
        Check.dueClock("songs 3600 new 5;", -16, 2);
        Check.dueClock("songs 3600 new 1 new 1;", -18, 1);
        Check.dueClock("songs 3600 new 1 mood 1;", -18, 1);
        Check.dueClock("songs 3600 new", -15, 1);
        Check.dueClock("songs 3600 new 1", -17, 1);
        Check.dueClock("songs 3600 3;", -12, 1);
        Check.dueClock("songs 3600 talk;", -12, 1);
        Check.dueClock("songs 3600mood 1;", -7, 1);
        Check.dueClock("songs3600;", -1, 1);
        Check.dueClock("songs 3600;;", -12, 1);
        String eight = "talk 1;talk 1;talk 1;talk 1;talk 1;talk 1;talk 1;talk 1;";
        Check.dueClock(eight, -57, 4);
        Check.dueClock(eight + "talk 1;", -57, 3);
        Check.dueClock(eight + "songs", -57, 3);
        Check.dueClock(eight + "tal 1;", -57, 1);
        Check.dueClock(eight + "mood 1;", -57, 1);
        Check.dueClock(eight + "9", -57, 1);
    }

    private static void clocksHaveALimit() {
        Check.dueClock("talk 3600;" + Check.blanks(230), 1, 0);
        Check.dueClock("talk 3600;" + Check.blanks(231), -241, 1);
        Check.dueClock("talk 3599;" + Check.blanks(230), -241, 4);
        Check.dueClock("talk 3599;" + Check.blanks(231), -241, 1);
        Check.dueClock("talk 3599;" + Check.blanks(229) + "?", -240, 1);
        Check.dueClock(Check.blanks(230) + "talk 3600;", 1, 0);
        Check.dueClock(Check.blanks(231) + "talk 3600;", -241, 1);
        Check.dueClock(Check.blanks(234) + "talk 3600", -241, 1);
        Check.dueClock(Check.blanks(234) + "talk 3601", -240, 2);
        Check.dueClock(Check.blanks(234) + "talk 36000", -240, 1);
        Check.dueClock("talk 3600;" + Check.blanks(224) + "talk 3600", -240, 3);
        Check.dueClock(Check.blanks(239) + "songs 3600;", -241, 1);
        Check.dueClock("x".repeat(260), -1, 1);
        Check.dueClock("talk 3600;" + "7".repeat(250), -11, 1);
        Check.dueClock(Check.blanks(239) + "sings 3600;", -240, 1);
    }

    private static void faultIsTheLatestCalls() {
        SongHour x = new SongHour();
        Check.rules(x, "keys 7;");
        Check.due("fault of rules", x.fault(), 2);
        Check.due("and again", x.fault(), 2);
        Check.dueThrow("clock(6)", () -> x.clock(6), Check.INDEX);
        Check.due("a call that threw changes nothing", x.fault(), 2);
        x.lay(0);
        x.feed(0, 0, 0, 0, 0);
        x.end(0);
        Check.due("others change nothing", x.fault(), 2);
        x.clock(0);
        Check.due("fault of clock", x.fault(), 4);
        x.rules();
        Check.due("none", x.fault(), 0);
    }

    private static void ruleKnowsFive() {
        SongHour x = new SongHour();
        Check.due("rule(-1)", x.rule(-1), SongHour.NONE);
        Check.due("rule(5)", x.rule(5), SongHour.NONE);
        Check.due("rule(2147483647)", x.rule(Integer.MAX_VALUE), SongHour.NONE);
        Check.due("rule(-2147483648)", x.rule(Integer.MIN_VALUE), SongHour.NONE);
    }

    private static void itemsKnowsSixClocks() {
        SongHour x = new SongHour();
        for (int k = 0; k < 6; k++) {
            String text = "talk 1;".repeat(k) + "songs " + (3600 - k) + ";";
            Check.due("clock(" + k + ")", Check.clock(x, k, text), k + 1);
        }
        for (int k = 0; k < 6; k++) {
            Check.due("items(" + k + ")", x.items(k), k + 1);
        }
        Check.dueThrow("items(-1)", () -> x.items(-1), Check.INDEX);
        Check.dueThrow("items(6)", () -> x.items(6), Check.INDEX);
        Check.dueThrow("items(-2147483648)", () -> x.items(Integer.MIN_VALUE), Check.INDEX);
    }
}
