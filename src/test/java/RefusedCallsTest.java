import java.util.ArrayList;
import java.util.List;

/**
 * Calls that are refused (NONE, -2, false), that throw, or that only tell something leave all as it
 * was. Two objects are made alike, one of them gets the call; then whatever can be asked of them, and
 * whatever they do from then on, must be the same.
 */
public final class RefusedCallsTest {
    private static final int LOWEST = Integer.MIN_VALUE;
    private static final int HIGHEST = Integer.MAX_VALUE;
    /** A call whose answer other tests look at. */
    private static final long ANY = Long.MAX_VALUE;

    interface Setup {
        void make(SongHour x);
    }

    interface Act {
        long on(SongHour x);
    }

    interface Look {
        void at(SongHour x, List<Long> seen);
    }

    private final String name;
    private final Setup setup;
    private final List<Look> looks = new ArrayList<>();

    private RefusedCallsTest(String name, Setup setup) {
        this.name = name;
        this.setup = setup;
        looks.add(RefusedCallsTest::lookAtAll);
        looks.add(RefusedCallsTest::lookAtSongs);
        looks.add(RefusedCallsTest::voteOn);
        looks.add(RefusedCallsTest::askOn);
        looks.add(RefusedCallsTest::readTapeAsRules);
        looks.add(RefusedCallsTest::readTapeAsClock);
        looks.add(RefusedCallsTest::feedOn);
        looks.add(RefusedCallsTest::layOn);
        // An object has 512 calls, so plays and hours are looked at in parts, each on new objects.
        for (int part = 0; part < 6; part++) {
            int first = 50 * part;
            looks.add((x, seen) -> lookAtPlays(x, seen, first));
        }
        for (int part = 0; part < 7; part++) {
            int first = 24 * part;
            looks.add((x, seen) -> lookAtHours(x, seen, first));
        }
    }

    public static void main(String[] args) {
        RefusedCallsTest fresh = new RefusedCallsTest("new", x -> { });
        RefusedCallsTest lively = new RefusedCallsTest("lively", RefusedCallsTest::makeLively);
        RefusedCallsTest nearly = new RefusedCallsTest("nearly full", RefusedCallsTest::makeNearlyFull);
        RefusedCallsTest full = new RefusedCallsTest("full", RefusedCallsTest::makeFull);
        fresh.dueCounts(0, 0, 0, 0, 0, 0, 0);
        nearly.dueCounts(167, 23, 296, 10, 10 * 2760, 19, 240);
        full.dueCounts(168, 24, 300, 10, 10 * 2760, 20, 260);
        RefusedCallsTest[] all = {fresh, lively, nearly, full};
        for (RefusedCallsTest test : all) {
            Check.sentence("A call that throws changes nothing.");
            test.throwing();
            Check.sentence("false, if it has not so many, or n is below 0");
            test.refusedEnds();
            Check.sentence("NONE: there are 24, or a number is not as told.");
            test.refusedSongs();
            Check.sentence("NONE: no such SONG, or it is not 0 to 9.");
            test.refusedVotes();
            Check.sentence("NONE: no such SONG, or there are 20.");
            test.refusedAsks();
            Check.sentence("-2: no such SONG, or another what.");
            test.refusedLooks();
            Check.sentence("Nothing is promised beyond the answers and state changes described above");
            test.mereLooks();
        }
        Check.sentence("A call that throws changes nothing.");
        fresh.dueSame("play(0, 0)", x -> x.play(0, 0), Check.ELEMENT);
        fresh.dueSame("left(0, 0)", x -> x.left(0, 0), Check.ELEMENT);
        lively.dueSame("left(0, 4)", x -> x.left(0, 4), Check.ELEMENT);
        int plays = lively.made().count(2);
        lively.dueSame("play(" + plays + ", 0)", x -> x.play(plays, 0), Check.ELEMENT);
        refusedBecauseOfTheState(fresh, lively, nearly, full);
        faultsChangeTheFaultAlone(all);
        Check.finish("RefusedCallsTest");
    }

    /** Rules, clocks, songs, more than ten votes, asks, two hours, half a text on the tape, a fault. */
    private static void makeLively(SongHour x) {
        Check.rules(x, "gap 61;artist 3;keys 4;slack 70;most 3;");
        Check.clock(x, 0, "talk 100;songs 520;songs 900 mood 1;talk 2080;");
        Check.clock(x, 1, "songs 700 new 1;songs 800;talk 2100;");
        Check.clock(x, 3, "talk 3600;");
        x.song(300, 0, 0, 1, false);
        x.song(220, 1, 3, 1, true);
        x.song(410, 2, 11, 0, false);
        x.song(880, 3, 5, 1, true);
        x.song(290, 0, 7, 2, true);
        for (int i = 0; i < 13; i++) {
            x.vote(0, i % 10);
            x.vote(2, 9 - i % 4);
        }
        x.vote(1, 4);
        x.ask(1);
        x.ask(1);
        x.ask(3);
        x.lay(0);
        x.lay(1);
        Check.clock(x, 4, "talk 3601;");
        Check.tape(x, "gap 5;keys 2;sla");
    }

    /** 296 plays, 23 songs, 19 asks, 240 bytes and 167 hours: one step from full everywhere. */
    private static void makeNearlyFull(SongHour x) {
        fillSongsAndHours(x, 23, 74, 167);
        for (int i = 0; i < 19; i++) {
            x.ask(1);
        }
        Check.tape(x, "talk 3600;" + Check.blanks(230));
    }

    private static void makeFull(SongHour x) {
        fillSongsAndHours(x, 24, 75, 168);
        for (int i = 0; i < 20; i++) {
            x.ask(1);
        }
        Check.tape(x, "talk 3600;" + Check.blanks(239) + "talk 3600;?");
    }

    /** So many stretches are filled with four songs of 30 seconds each; clock 0 has eight of them. */
    private static void fillSongsAndHours(SongHour x, int songs, int stretches, int hours) {
        Check.rules(x, "gap 0;artist 0;slack 0;");
        Check.clock(x, 0, "songs 120;".repeat(7) + "songs 2760;");
        Check.clock(x, 1, "songs 120;talk 3480;");
        Check.clock(x, 2, "talk 3600;");
        for (int s = 0; s < songs; s++) {
            x.song(s == 0 ? 30 : 200 + s, s % 12, s % 12, s % 4, s % 2 == 0);
        }
        int laid = 0;
        int rest = stretches;
        for (; rest > 7; rest -= 7) {
            x.lay(0);
            laid++;
        }
        for (; rest > 0; rest--) {
            x.lay(1);
            laid++;
        }
        for (; laid < hours; laid++) {
            x.lay(2);
        }
    }

    private void dueCounts(int... want) {
        SongHour x = made();
        for (int what = 0; what < want.length; what++) {
            Check.due(name + ": count(" + what + ")", x.count(what), want[what]);
        }
    }

    private SongHour made() {
        SongHour x = new SongHour();
        setup.make(x);
        return x;
    }

    /** The call answers what is due, and no look can tell that it was made. */
    private void dueSame(String call, Act act, long want) {
        for (int i = 0; i < looks.size(); i++) {
            SongHour with = made();
            SongHour without = made();
            long answer = Check.outcome(() -> act.on(with));
            if (i == 0 && want != ANY) {
                Check.due(name + ": " + call, answer, want);
            }
            dueAlike(call, i, with, without);
        }
    }

    private void dueAlike(String call, int look, SongHour one, SongHour other) {
        List<Long> seen = new ArrayList<>();
        List<Long> wanted = new ArrayList<>();
        looks.get(look).at(one, seen);
        looks.get(look).at(other, wanted);
        Check.due(name + ": look " + look + " behind " + call + " is as without it", seen.equals(wanted), true);
    }

    private static void lookAtAll(SongHour x, List<Long> seen) {
        for (int i = 0; i < 7; i++) {
            seen.add((long) x.count(i));
            seen.add((long) x.rule(i));
        }
        for (int k = 0; k < 6; k++) {
            seen.add((long) x.items(k));
        }
        seen.add((long) x.fault());
        for (int artist = 0; artist < 12; artist++) {
            seen.add((long) x.rights(artist, 0, HIGHEST));
            seen.add((long) x.rights(artist, 500, 4500));
        }
        for (int second = 0; second < 7200; second += 97) {
            seen.add((long) x.at(second));
        }
    }

    private static void lookAtSongs(SongHour x, List<Long> seen) {
        for (int s = 0; s < 24; s++) {
            for (int what = 0; what < 5; what++) {
                seen.add((long) x.told(s, what));
            }
        }
        // The numbers of a song tell themselves only by what is laid.
        seen.add((long) x.song(30, 11, 1, 0, false));
    }

    private static void lookAtPlays(SongHour x, List<Long> seen, int first) {
        int plays = x.count(2);
        for (int p = first; p < first + 50 && p < plays; p++) {
            for (int what = 0; what < 4; what++) {
                seen.add((long) x.play(p, what));
            }
        }
        int next = plays;
        seen.add(Check.outcome(() -> x.play(next, 0)));
    }

    private static void lookAtHours(SongHour x, List<Long> seen, int first) {
        for (int h = first; h < first + 24 && h < x.count(0); h++) {
            int hour = h;
            long left = 0;
            for (int i = 0; i < 9 && left != Check.ELEMENT; i++) {
                int item = i;
                left = Check.outcome(() -> x.left(hour, item));
                seen.add(left);
            }
        }
    }

    /** Ten noughts push the votes out one by one: all ten and their order are seen. */
    private static void voteOn(SongHour x, List<Long> seen) {
        for (int s = 0; s < 5; s++) {
            for (int i = 0; i < 10; i++) {
                seen.add((long) x.vote(s, 0));
            }
        }
    }

    private static void askOn(SongHour x, List<Long> seen) {
        for (int s = 0; s < 24; s++) {
            seen.add((long) x.ask(s));
            seen.add((long) x.told(s, 0));
        }
        seen.add((long) x.count(5));
    }

    private static void readTapeAsRules(SongHour x, List<Long> seen) {
        seen.add((long) x.rules());
        seen.add((long) x.fault());
        for (int k = 0; k < 5; k++) {
            seen.add((long) x.rule(k));
        }
    }

    private static void readTapeAsClock(SongHour x, List<Long> seen) {
        seen.add((long) x.clock(5));
        seen.add((long) x.fault());
        seen.add((long) x.items(5));
    }

    private static void feedOn(SongHour x, List<Long> seen) {
        seen.add((long) x.feed(0x636b2031, 0x3b6b6579, 0x7320323b, 0x6d6f7374, 0x20323b20));
        readTapeAsRules(x, seen);
    }

    private static void layOn(SongHour x, List<Long> seen) {
        int plays = x.count(2);
        for (int k = 0; k < 6; k++) {
            int hour = x.count(0);
            seen.add((long) x.lay(k));
            for (int i = 0; i < x.items(k) && x.count(0) > hour; i++) {
                seen.add((long) x.left(hour, i));
            }
        }
        for (int p = plays; p < x.count(2); p++) {
            seen.add((long) x.play(p, 0));
            seen.add((long) x.play(p, 1));
        }
    }

    private void throwing() {
        int[] clocks = {-1, 6, LOWEST, HIGHEST};
        for (int k : clocks) {
            dueSame("clock(" + k + ")", x -> x.clock(k), Check.INDEX);
            dueSame("lay(" + k + ")", x -> x.lay(k), Check.INDEX);
            dueSame("items(" + k + ")", x -> x.items(k), Check.INDEX);
        }
        int[][] plays = {{-1, 0}, {300, 0}, {LOWEST, 0}, {HIGHEST, 3}, {0, 4}, {0, -1}, {0, LOWEST}};
        for (int[] p : plays) {
            dueSame("play(" + p[0] + ", " + p[1] + ")", x -> x.play(p[0], p[1]), Check.ELEMENT);
        }
        int[][] lefts = {{-1, 0}, {168, 0}, {LOWEST, 0}, {HIGHEST, 7}, {0, 8}, {0, -1}, {0, HIGHEST}};
        for (int[] p : lefts) {
            dueSame("left(" + p[0] + ", " + p[1] + ")", x -> x.left(p[0], p[1]), Check.ELEMENT);
        }
    }

    private void refusedEnds() {
        int[] ends = {-1, 261, LOWEST, HIGHEST};
        for (int n : ends) {
            dueSame("end(" + n + ")", x -> x.end(n) ? 1 : 0, 0);
        }
        int size = made().count(6);
        dueSame("end(" + (size + 1) + ")", x -> x.end(size + 1) ? 1 : 0, 0);
    }

    private void refusedSongs() {
        int[][] songs = {{29, 0, 0, 0}, {901, 0, 0, 0}, {300, -1, 0, 0}, {300, 12, 0, 0}, {300, 0, -1, 0},
            {300, 0, 12, 0}, {300, 0, 0, -1}, {300, 0, 0, 4}, {LOWEST, HIGHEST, LOWEST, HIGHEST}};
        for (int[] n : songs) {
            String call = "song(" + n[0] + ", " + n[1] + ", " + n[2] + ", " + n[3] + ", true)";
            dueSame(call, x -> x.song(n[0], n[1], n[2], n[3], true), SongHour.NONE);
        }
    }

    private void refusedVotes() {
        int[][] votes = {{-1, 5}, {24, 5}, {LOWEST, 5}, {HIGHEST, 5}, {0, -1}, {0, 10}, {0, LOWEST}, {0, HIGHEST}, {24, 10}};
        for (int[] n : votes) {
            dueSame("vote(" + n[0] + ", " + n[1] + ")", x -> x.vote(n[0], n[1]), SongHour.NONE);
        }
    }

    private void refusedAsks() {
        int[] songs = {-1, 24, LOWEST, HIGHEST};
        for (int s : songs) {
            dueSame("ask(" + s + ")", x -> x.ask(s), SongHour.NONE);
        }
    }

    private void refusedLooks() {
        int[][] tolds = {{-1, 0}, {24, 0}, {LOWEST, 4}, {HIGHEST, 4}, {0, -1}, {0, 5}, {0, LOWEST}, {0, HIGHEST}};
        for (int[] n : tolds) {
            dueSame("told(" + n[0] + ", " + n[1] + ")", x -> x.told(n[0], n[1]), -2);
        }
        int[] numbers = {-1, 7, LOWEST, HIGHEST};
        for (int n : numbers) {
            dueSame("rule(" + n + ")", x -> x.rule(n), SongHour.NONE);
            dueSame("count(" + n + ")", x -> x.count(n), SongHour.NONE);
        }
        int[] seconds = {-1, 604800, LOWEST, HIGHEST};
        for (int n : seconds) {
            dueSame("at(" + n + ")", x -> x.at(n), SongHour.NONE);
        }
        int[][] rights = {{-1, 0, 1}, {12, 0, 1}, {LOWEST, 0, 1}, {HIGHEST, 0, 1}, {0, 1, 0}, {0, HIGHEST, LOWEST}};
        for (int[] n : rights) {
            dueSame("rights(" + n[0] + ", " + n[1] + ", " + n[2] + ")", x -> x.rights(n[0], n[1], n[2]), SongHour.NONE);
        }
    }

    private void mereLooks() {
        dueSame("fault()", x -> x.fault(), ANY);
        dueSame("rule(0)", x -> x.rule(0), ANY);
        dueSame("items(0)", x -> x.items(0), ANY);
        dueSame("at(600)", x -> x.at(600), ANY);
        dueSame("rights(0, 0, 7200)", x -> x.rights(0, 0, 7200), ANY);
        dueSame("told(0, 3)", x -> x.told(0, 3), ANY);
        dueSame("play(0, 1)", x -> x.play(0, 1), ANY);
        dueSame("left(0, 1)", x -> x.left(0, 1), ANY);
        for (int what = 0; what < 7; what++) {
            int which = what;
            dueSame("count(" + what + ")", x -> x.count(which), ANY);
        }
        int size = made().count(6);
        dueSame("end of all that there is", x -> x.end(size) ? 1 : 0, 1);
    }

    private static void refusedBecauseOfTheState(RefusedCallsTest fresh, RefusedCallsTest lively,
            RefusedCallsTest nearly, RefusedCallsTest full) {
        Check.sentence("NONE: no such SONG, or it is not 0 to 9.");
        fresh.dueSame("vote(0, 5)", x -> x.vote(0, 5), SongHour.NONE);
        lively.dueSame("vote(5, 5)", x -> x.vote(5, 5), SongHour.NONE);
        nearly.dueSame("vote(23, 5)", x -> x.vote(23, 5), SongHour.NONE);
        Check.sentence("NONE: no such SONG, or there are 20.");
        fresh.dueSame("ask(0)", x -> x.ask(0), SongHour.NONE);
        lively.dueSame("ask(5)", x -> x.ask(5), SongHour.NONE);
        full.dueSame("ask(1)", x -> x.ask(1), SongHour.NONE);
        Check.sentence("-2: no such SONG, or another what.");
        fresh.dueSame("told(0, 0)", x -> x.told(0, 0), -2);
        lively.dueSame("told(5, 0)", x -> x.told(5, 0), -2);
        Check.sentence("NONE, and none come, if it would have more than 260");
        full.dueSame("feed", x -> x.feed(1, 2, 3, 4, 5), SongHour.NONE);
        Check.sentence("NONE: there are 24, or a number is not as told.");
        full.dueSame("song(300, 0, 0, 0, true)", x -> x.song(300, 0, 0, 0, true), SongHour.NONE);
        Check.sentence("NONE: it has no ITEMS (none were told), there are 168, or there might be too many PLAYS.");
        for (int k = 0; k < 6; k++) {
            int which = k;
            fresh.dueSame("lay(" + k + ")", x -> x.lay(which), SongHour.NONE);
            full.dueSame("lay(" + k + ")", x -> x.lay(which), SongHour.NONE);
        }
        lively.dueSame("lay(2)", x -> x.lay(2), SongHour.NONE);
        lively.dueSame("lay(4)", x -> x.lay(4), SongHour.NONE);
        nearly.dueSame("lay(0)", x -> x.lay(0), SongHour.NONE);
    }

    /** A fault in rules and the same fault in a clock come to the same: both let all else stay. */
    private static void faultsChangeTheFaultAlone(RefusedCallsTest[] all) {
        Check.sentence("-1 less the place of a FAULT: they stay.");
        String[] texts = {"?", "gap 1;?", "talk 3600;?", "most 4", "5;", Check.blanks(120) + "talk 3600;" + Check.blanks(130)};
        for (RefusedCallsTest test : all) {
            for (String text : texts) {
                for (int i = 0; i < test.looks.size(); i++) {
                    SongHour one = test.made();
                    SongHour other = test.made();
                    one.end(0);
                    other.end(0);
                    Check.due(test.name + ": rules '" + text + "'", Check.rules(one, text) < 0, true);
                    Check.due(test.name + ": clock '?'", Check.clock(other, 0, "?"), -1);
                    test.dueAlike("rules '" + text + "'", i, one, other);
                }
            }
        }
        Check.sentence("-1 less the place of a FAULT: it stays.");
        String[] clocks = {"?", "gap 1;", "songs 3600", "songs 3600 new 1 mood 1;", "talk 3600;" + Check.blanks(231)};
        for (RefusedCallsTest test : all) {
            for (String text : clocks) {
                for (int i = 0; i < test.looks.size(); i++) {
                    SongHour one = test.made();
                    SongHour other = test.made();
                    one.end(0);
                    other.end(0);
                    Check.due(test.name + ": clock '" + text + "'", Check.clock(one, 1, text) < 0, true);
                    Check.due(test.name + ": rules '?'", Check.rules(other, "?"), -1);
                    test.dueAlike("clock '" + text + "'", i, one, other);
                }
            }
        }
    }
}
