/**
 * Songs and hours: each sentence of the document that names an edge of theirs, with a test of its own
 * (the terms of sections 1 to 3, promises 8 to 16 and 18).
 */
public final class EdgesOfHoursTest {
    private static final int NONE = SongHour.NONE;
    private static final int LOWEST = Integer.MIN_VALUE;
    private static final int HIGHEST = Integer.MAX_VALUE;
    private static final String FREE = "gap 0;artist 0;";

    private EdgesOfHoursTest() { }

    public static void main(String[] args) {
        songsHaveBounds();
        thereAre24Songs();
        votesHaveBounds();
        tenVotesCount();
        twentyAsksAreOpen();
        asksOfNoSong();
        hoursBeginEvery3600();
        thereAre168Hours();
        itemsComeOneBehindTheOther();
        rowsHaveOneToMost();
        rowsEndAtTheLatest();
        rowsEndNoMoreThanSlackAhead();
        gapIsCountedInMinutes();
        gapIsTheLongest();
        gapCountsInTheRow();
        artistIsCountedInMinutes();
        artistIsTheLongest();
        artistCountsInTheRow();
        keysGoRoundTheTwelve();
        keysOfTheSongPlayedLast();
        moodIsOfAll();
        newOnesAreEnough();
        fewestSecondsAreLeft();
        fewestSecondsWhateverTheOrder();
        mostHeatTogether();
        heatIsOfTheHoursLaying();
        theFirstOfLikeRows();
        emptyStretches();
        oldestAsksAreDone();
        playsAre300();
        rightsHaveBounds();
        layAnswers();
        layRefuses();
        clocksAreToldAnew();
        toldTells();
        playTells();
        leftTells();
        atTells();
        rightsRefuse();
        countTells();
        callsAre512();
        Check.finish("EdgesOfHoursTest");
    }

    /** Whether one stretch at an hour's beginning is filled by some of these songs. */
    private static SongHour stretch(String rules, int seconds, int... songs) {
        SongHour x = Station.with(rules, "songs " + seconds + ";talk " + (3600 - seconds) + ";");
        Station.songs(x, songs);
        return x;
    }

    private static void songsHaveBounds() {
        Check.sentence("SECONDS (30 to 900), an ARTIST 0 to 11, a KEY 0 to 11, a MOOD 0 to 3, NEW or not.");
        SongHour x = new SongHour();
        int[] fine = {300, 5, 5, 2};
        int[] least = {30, 0, 0, 0};
        int[] most = {900, 11, 11, 3};
        int songs = 0;
        for (int i = 0; i < 4; i++) {
            int[] inside = {least[i], most[i]};
            for (int n : inside) {
                Check.due("number " + i + " is " + n, song(x, fine, i, n), songs++);
            }
            int[] outside = {least[i] - 1, most[i] + 1, LOWEST, HIGHEST, least[i] - 31};
            for (int n : outside) {
                Check.due("number " + i + " is " + n, song(x, fine, i, n), NONE);
                Check.due("no song more", x.count(1), songs);
            }
        }
        Check.due("all the least", x.song(30, 0, 0, 0, true), songs++);
        Check.due("all the greatest", x.song(900, 11, 11, 3, false), songs);
    }

    private static int song(SongHour x, int[] usual, int i, int n) {
        int[] all = usual.clone();
        all[i] = n;
        return x.song(all[0], all[1], all[2], all[3], i % 2 == 0);
    }

    private static void thereAre24Songs() {
        Check.sentence("One more SONG: its number; NONE: there are 24, or a number is not as told.");
        SongHour x = new SongHour();
        for (int s = 0; s < 24; s++) {
            Check.due("not as told", x.song(29, 0, 0, 0, false), NONE);
            Check.due("song " + s, x.song(30 + s, s % 12, 0, 0, false), s);
        }
        Check.due("a 25th", x.song(300, 0, 0, 0, false), NONE);
        Check.due("a 25th, not as told", x.song(29, 0, 0, 0, false), NONE);
        Check.due("24", x.count(1), 24);
        Check.due("vote for the last", x.vote(23, 9), 9);
        Check.due("vote for a 25th", x.vote(24, 9), NONE);
        Check.due("ask for the last", x.ask(23), 1);
        Check.due("ask for a 25th", x.ask(24), NONE);
        Check.due("told of the last", x.told(23, 0), 24);
        Check.due("told of a 25th", x.told(24, 0), -2);
        // The last song can be laid as well as the first.
        Check.rules(x, "slack 0;most 1;");
        Check.clock(x, 0, "songs 53;songs 30;talk 3517;");
        Check.due("lay(0)", x.lay(0), 2);
        Station.duePlays("the last and the first", x, 0, 23, 0);
    }

    private static void votesHaveBounds() {
        Check.sentence("A VOTE for SONG s: its HEAT then; NONE: no such SONG, or it is not 0 to 9.");
        SongHour x = new SongHour();
        Check.due("no song at all", x.vote(0, 5), NONE);
        Station.songs(x, 300, 300);
        int[] songs = {-1, 2, 23, 24, LOWEST, HIGHEST};
        for (int s : songs) {
            Check.due("vote(" + s + ", 5)", x.vote(s, 5), NONE);
        }
        int[] marks = {-1, 10, LOWEST, HIGHEST};
        for (int mark : marks) {
            Check.due("vote(0, " + mark + ")", x.vote(0, mark), NONE);
        }
        Check.due("no heat", x.told(0, 0) + x.told(1, 0), 0);
        Check.due("vote(0, 0)", x.vote(0, 0), 0);
        Check.due("vote(0, 9)", x.vote(0, 9), 9);
        Check.due("vote(1, 1)", x.vote(1, 1), 1);
        x.ask(0);
        Check.due("with an ask", x.vote(0, 1), 25);
    }

    private static void tenVotesCount() {
        Check.sentence("HEAT: the sum of its latest ten VOTES");
        SongHour x = new SongHour();
        Station.songs(x, 300, 300);
        int[] marks = new int[45];
        for (int i = 0; i < marks.length; i++) {
            marks[i] = i * 7 % 10;
            int sum = 0;
            for (int j = Math.max(0, i - 9); j <= i; j++) {
                sum += marks[j];
            }
            // Of another song, and refused: neither pushes one of these ten out.
            x.vote(1, 9);
            x.vote(0, 10);
            Check.due("vote " + i, x.vote(0, marks[i]), sum);
            Check.due("told behind vote " + i, x.told(0, 0), sum);
        }
        SongHour y = new SongHour();
        Station.songs(y, 300);
        int[] first = {9, 0, 0, 0, 0, 0, 0, 0, 0, 0, 0};
        for (int i = 0; i < first.length; i++) {
            Check.due("a nine and " + i + " noughts", y.vote(0, first[i]), i < 10 ? 9 : 0);
        }
        SongHour z = new SongHour();
        Station.songs(z, 300);
        for (int i = 1; i <= 12; i++) {
            Check.due(i + " nines", z.vote(0, 9), 9 * Math.min(i, 10));
        }
    }

    private static void twentyAsksAreOpen() {
        Check.sentence("and 15 for each ASK that is open (20 at most).");
        SongHour x = stretch(FREE + "slack 0;most 1;", 300, 300, 400);
        for (int i = 1; i <= 20; i++) {
            Check.due("ask " + i, x.ask(0), i);
            Check.due("heat of " + i, x.told(0, 0), 15 * i);
            Check.due("open, " + i, x.told(0, 3), i);
        }
        for (int i = 0; i < 2; i++) {
            Check.due("a 21st", x.ask(0), NONE);
            Check.due("heat stays", x.told(0, 0), 300);
            Check.due("twenty stay", x.told(0, 3), 20);
        }
        Check.due("vote beside twenty", x.vote(0, 9), 309);
        Check.due("of another song", x.ask(1), 1);
        Check.due("all", x.count(5), 21);
        x.lay(0);
        Check.due("one is done", x.told(0, 3), 19);
        Check.due("a twentieth again", x.ask(0), 20);
        Check.due("and no more", x.ask(0), NONE);
        Check.due("done", x.told(0, 4), 1);
    }

    private static void asksOfNoSong() {
        Check.sentence("An ASK for SONG s: how many are open; NONE: no such SONG, or there are 20.");
        SongHour x = new SongHour();
        Check.due("no song at all", x.ask(0), NONE);
        Station.songs(x, 300, 300);
        int[] songs = {-1, 2, 23, 24, LOWEST, HIGHEST};
        for (int s : songs) {
            Check.due("ask(" + s + ")", x.ask(s), NONE);
        }
        Check.due("none open", x.count(5), 0);
        Check.due("ask(1)", x.ask(1), 1);
        Check.due("ask(0)", x.ask(0), 1);
        Check.due("ask(1)", x.ask(1), 2);
    }

    private static void hoursBeginEvery3600() {
        Check.sentence("HOUR h begins at second 3600 h.");
        SongHour x = stretch(FREE + "slack 0;most 1;", 300, 300);
        for (int h = 0; h < 168; h++) {
            x.lay(0);
            Check.due("hour " + h, x.play(h, 1), 3600 * h);
        }
    }

    private static void thereAre168Hours() {
        Check.sentence("HOURS 0 .. 167 are LAID one behind the other by a CLOCK");
        SongHour x = Station.with("", "talk 3600;");
        Check.clock(x, 1, "talk 1800;songs 1800;");
        for (int h = 0; h < 168; h++) {
            Check.due("lay, hour " + h, x.lay(h % 2), 0);
            Check.due("hours", x.count(0), h + 1);
        }
        Check.due("a 169th", x.lay(0), NONE);
        Check.due("a 169th", x.lay(1), NONE);
        Check.due("168", x.count(0), 168);
        Check.due("left(166, 0)", x.left(166, 0), 0);
        Check.dueThrow("left(166, 1)", () -> x.left(166, 1), Check.ELEMENT);
        Check.due("left(167, 1)", x.left(167, 1), 1800);
        Check.dueThrow("left(168, 0)", () -> x.left(168, 0), Check.ELEMENT);
    }

    private static void itemsComeOneBehindTheOther() {
        Check.sentence("ITEMS come one behind the other, each as long as told.");
        SongHour x = Station.with(FREE + "slack 900;most 1;",
                "talk 1;songs 31;songs 40;talk 7;songs 30;talk 1000;songs 99;talk 2392;");
        Station.songs(x, 30);
        x.lay(0);
        x.lay(0);
        int[] begins = {1, 32, 79, 1109};
        int[] items = {1, 2, 4, 6};
        int[] left = {0, 1, 10, 0, 0, 0, 69, 0};
        for (int p = 0; p < 8; p++) {
            Check.due("play(" + p + ", 1)", x.play(p, 1), begins[p % 4] + 3600 * (p / 4));
            Check.due("play(" + p + ", 2)", x.play(p, 2), p / 4);
            Check.due("play(" + p + ", 3)", x.play(p, 3), items[p % 4]);
        }
        for (int i = 0; i < 8; i++) {
            Check.due("left(1, " + i + ")", x.left(1, i), left[i]);
        }
    }

    private static void rowsHaveOneToMost() {
        Check.sentence("is filled by a ROW of 1 to most SONGS, the first at t, each next one when the one ahead ends");
        for (int most = 1; most <= 4; most++) {
            for (int need = 1; need <= 5; need++) {
                SongHour x = stretch(FREE + "slack 0;most " + most + ";", 100 * need, 100);
                boolean isFilled = need <= most;
                Check.due(need + " of at most " + most, x.lay(0), isFilled ? 1 : 0);
                Check.due("plays", x.count(2), isFilled ? need : 0);
                for (int p = 0; p < need && isFilled; p++) {
                    Check.due("play(" + p + ", 1)", x.play(p, 1), 100 * p);
                }
            }
        }
        // No row of none, though no more than slack would be left.
        int[] lengths = {1, 29, 30, 899, 900};
        for (int n : lengths) {
            SongHour y = stretch("slack 900;", n);
            Check.due("no songs for " + n, y.lay(0), 0);
            Check.due("all left of " + n, y.left(0, 0), n);
            Check.due("empty, " + n, y.count(3), 1);
        }
        SongHour z = stretch("slack 900;", 29, 30);
        Check.due("a second too short for the shortest", z.lay(0), 0);
    }

    private static void rowsEndAtTheLatest() {
        Check.sentence("that ends at t + n at the latest, and no more than slack seconds ahead of that");
        int[] lengths = {30, 31, 299, 300, 301, 899, 900};
        for (int n : lengths) {
            SongHour x = stretch("slack 0;", n, n);
            Check.due("a song of " + n + " in as many", x.lay(0), 1);
            if (n > 30) {
                SongHour y = stretch("slack 900;", n - 1, n);
                Check.due("a song of " + n + " in one less", y.lay(0), 0);
            }
        }
        SongHour z = stretch("slack 900;", 599, 300, 300);
        Check.due("two in one less", z.lay(0), 1);
        Station.duePlays("the first alone", z, 0, 0);
        SongHour w = Station.with("slack 0;", "talk 2700;songs 900;");
        Station.songs(w, 900);
        Check.due("to the hour's very end", w.lay(0), 1);
        Check.due("the hour's last second", w.at(3599), 0);
        Check.due("the next hour's first", w.at(3600), NONE);
    }

    private static void rowsEndNoMoreThanSlackAhead() {
        Check.sentence("and no more than slack seconds ahead of that");
        int[] slacks = {0, 1, 59, 60, 61, 899, 900};
        for (int slack : slacks) {
            SongHour x = stretch("slack " + slack + ";most 1;", 300 + slack, 300);
            Check.due("all the slack of " + slack, x.lay(0), 1);
            Check.due("left", x.left(0, 0), slack);
            SongHour y = stretch("slack " + slack + ";most 1;", 301 + slack, 300);
            Check.due("one more than the slack of " + slack, y.lay(0), 0);
            Check.due("all left", y.left(0, 0), 301 + slack);
        }
        SongHour z = stretch("most 1;", 360, 300);
        Check.due("sixty without the rule", z.lay(0), 1);
        SongHour w = stretch("most 1;", 361, 300);
        Check.due("61 without the rule", w.lay(0), 0);
    }

    /**
     * Song 0 begins at second 1800; how many stretches are filled by a song so many seconds later:
     * song 0 itself, or, if an artist is told, song 1 of that artist.
     */
    private static int filledLater(String rules, int apart, int artist) {
        SongHour x = Station.with(rules, "talk 1800;songs 300;talk 1500;");
        x.song(300, 0, 0, 0, false);
        x.lay(0);
        Check.clock(x, 1, "talk 3600;");
        int hour = (1800 + apart) / 3600;
        for (int h = 1; h < hour; h++) {
            x.lay(1);
        }
        int second = (1800 + apart) % 3600;
        int length = 300;
        if (artist != NONE) {
            length = 299;
            x.song(299, artist, 0, 0, false);
        }
        Check.clock(x, 2, "talk " + second + ";songs " + length + ";talk " + (3600 - second - length) + ";");
        return x.lay(2);
    }

    private static void gapIsCountedInMinutes() {
        Check.sentence("no SONG that began less than gap minutes ahead of its second");
        int[] gaps = {60, 61, 119, 120, 180, 600};
        for (int gap : gaps) {
            String rules = "gap " + gap + ";artist 0;slack 0;most 1;";
            Check.due("a second less than " + gap, filledLater(rules, 60 * gap - 1, NONE), 0);
            Check.due("just " + gap, filledLater(rules, 60 * gap, NONE), 1);
            Check.due("a second more than " + gap, filledLater(rules, 60 * gap + 1, NONE), 1);
        }
        Check.due("without the rule: a second less than 180", filledLater("artist 0;slack 0;most 1;", 60 * 180 - 1, NONE), 0);
        Check.due("without the rule: 180", filledLater("artist 0;slack 0;most 1;", 60 * 180, NONE), 1);
    }

    private static void gapIsTheLongest() {
        Check.sentence("gap (0 to 9999 minutes; 180 without it)");
        // 9999 minutes are 166 hours and 39 minutes: the last hours are just beyond them.
        SongHour x = Station.with("gap 9999;artist 0;slack 0;most 1;", "songs 300;talk 3300;");
        Station.songs(x, 300);
        Check.due("hour 0", x.lay(0), 1);
        Check.clock(x, 1, "talk 3600;");
        for (int h = 1; h < 166; h++) {
            x.lay(1);
        }
        Check.clock(x, 2, "talk 2039;songs 300;songs 300;talk 961;");
        Check.due("hour 166, 9999 minutes less 301 seconds and less one", x.lay(2), 0);
        Check.due("hour 167", x.lay(0), 1);
        SongHour y = Station.with("gap 9999;artist 0;slack 0;most 1;", "songs 300;talk 3300;");
        Station.songs(y, 300);
        y.lay(0);
        Check.clock(y, 1, "talk 3600;");
        for (int h = 1; h < 166; h++) {
            y.lay(1);
        }
        Check.clock(y, 2, "talk 2340;songs 300;talk 960;");
        Check.due("hour 166, just 9999 minutes", y.lay(2), 1);
    }

    private static void gapCountsInTheRow() {
        Check.sentence("(PLAYED ones, those of the ROW, too)");
        int[][] want = {{0, 300, 1}, {5, 300, 1}, {5, 299, 0}, {6, 300, 0}, {1, 60, 1}, {1, 59, 0}, {15, 900, 1}};
        for (int[] w : want) {
            SongHour x = stretch("gap " + w[0] + ";artist 0;slack 0;", 2 * w[1], w[1]);
            Check.due("gap " + w[0] + ", twice " + w[1], x.lay(0), w[2]);
            SongHour y = Station.with("gap 0;artist " + w[0] + ";slack 0;", "songs " + (2 * w[1]) + ";talk " + (3600 - 2 * w[1]) + ";");
            y.song(w[1], 4, 0, 0, false);
            y.song(w[1], 4, 0, 0, false);
            Check.due("artist " + w[0] + ", twice " + w[1], y.lay(0), w[2]);
        }
        // With another song between them they are far enough apart: 200 + 100 seconds.
        SongHour z = stretch("gap 5;artist 0;slack 0;", 500, 200, 100);
        Check.due("one between", z.lay(0), 1);
        Station.duePlays("one between", z, 0, 0, 1, 0);
        SongHour w = stretch("gap 5;artist 0;slack 0;", 498, 200, 98);
        Check.due("one between, two seconds too short", w.lay(0), 0);
        // Rows of an earlier stretch count as played, too.
        SongHour v = Station.with("gap 10;artist 0;slack 0;", "songs 300;talk 299;songs 300;talk 2701;");
        Station.songs(v, 300);
        Check.due("599 seconds behind an earlier stretch", v.lay(0), 1);
        SongHour u = Station.with("gap 10;artist 0;slack 0;", "songs 300;talk 300;songs 300;talk 2700;");
        Station.songs(u, 300);
        Check.due("600 seconds behind an earlier stretch", u.lay(0), 2);
    }

    private static void artistIsCountedInMinutes() {
        Check.sentence("no ARTIST with a SONG that began less than artist minutes ahead");
        int[] minutes = {60, 61, 119, 120, 600};
        for (int artist : minutes) {
            String rules = "gap 9999;artist " + artist + ";slack 0;most 1;";
            Check.due("a second less than " + artist, filledLater(rules, 60 * artist - 1, 0), 0);
            Check.due("just " + artist, filledLater(rules, 60 * artist, 0), 1);
            Check.due("another's, a second less than " + artist, filledLater(rules, 60 * artist - 1, 11), 1);
        }
        SongHour x = Station.with("gap 0;slack 0;most 1;", "songs 300;talk 2999;songs 300;talk 1;");
        Station.songs(x, 300);
        Check.due("without the rule: a second less than 55 minutes", x.lay(0), 1);
        Check.due("without the rule: sixty behind the first", x.lay(0), 1);
        SongHour y = Station.with("gap 0;slack 0;most 1;", "talk 1;songs 300;talk 3299;");
        Station.songs(y, 300);
        y.lay(0);
        Check.clock(y, 0, "songs 300;songs 300;talk 3000;");
        Check.due("without the rule: a second less than sixty, then enough", y.lay(0), 1);
        Check.due("the second one", y.play(1, 3), 1);
    }

    private static void artistIsTheLongest() {
        Check.sentence("artist (0 to 9999 minutes; 60)");
        for (int talk = 2339; talk <= 2340; talk++) {
            SongHour x = Station.with("gap 0;artist 9999;slack 0;most 1;", "songs 300;talk 3300;");
            x.song(300, 11, 0, 0, false);
            x.song(299, 11, 0, 0, false);
            x.lay(0);
            Check.clock(x, 1, "talk 3600;");
            for (int h = 1; h < 166; h++) {
                x.lay(1);
            }
            Check.clock(x, 2, "talk " + talk + ";songs 299;talk " + (3301 - talk) + ";");
            Check.due("at second " + talk + " of hour 166", x.lay(2), talk == 2340 ? 1 : 0);
        }
    }

    private static void artistCountsInTheRow() {
        Check.sentence("no ARTIST with a SONG that began less than artist minutes ahead (PLAYED ones, those of the ROW, too)");
        for (int artist = 0; artist < 12; artist++) {
            SongHour x = Station.with("gap 0;artist 6;slack 0;", "songs 600;talk 3000;");
            x.song(300, artist, 0, 0, false);
            x.song(300, (artist + 1) % 12, 0, 0, false);
            Check.due("artists " + artist + " and the next", x.lay(0), 1);
            Station.duePlays("one of each", x, 0, 0, 1);
        }
        // The artist's other song first is far enough ahead, this one first is not.
        SongHour y = Station.with("gap 0;artist 5;slack 0;most 2;", "songs 599;talk 3001;");
        y.song(299, 3, 0, 0, false);
        y.song(300, 3, 0, 0, false);
        Check.due("the longer one first", y.lay(0), 1);
        Station.duePlays("the longer one first", y, 0, 1, 0);
    }

    private static void keysGoRoundTheTwelve() {
        Check.sentence("the KEYS are no more than keys steps apart round the twelve");
        int[] apart = {0, 1, 2, 3, 4, 5, 6, 5, 4, 3, 2, 1};
        for (int from = 0; from < 12; from++) {
            for (int way = 0; way < 12; way++) {
                for (int steps = 0; steps <= 6; steps++) {
                    SongHour x = new SongHour();
                    Check.rules(x, "keys " + steps + ";slack 0;");
                    Check.clock(x, 0, "songs 500;talk 3100;");
                    x.song(200, 0, from, 0, false);
                    x.song(300, 1, (from + way) % 12, 0, false);
                    Check.due("from " + from + " by " + way + " within " + steps, x.lay(0), apart[way] <= steps ? 1 : 0);
                }
            }
        }
    }

    /** Two songs of 300 with these keys: the first stretch's and one behind it. */
    private static SongHour twoKeys(String clock, int steps) {
        SongHour x = Station.with("keys " + steps + ";slack 1;most 1;", clock);
        x.song(300, 0, 11, 0, false);
        x.song(299, 1, 2, 0, false);
        return x;
    }

    private static void keysOfTheSongPlayedLast() {
        Check.sentence("(and of the first one and the SONG PLAYED last, if that ended at t)");
        Check.due("three steps, two may be", twoKeys("songs 300;songs 299;talk 3001;", 2).lay(0), 1);
        Check.due("three steps, three may be", twoKeys("songs 300;songs 299;talk 3001;", 3).lay(0), 2);
        Check.due("it ended a second ahead", twoKeys("songs 301;songs 299;talk 3000;", 2).lay(0), 2);
        Check.due("a second of talk between", twoKeys("songs 300;talk 1;songs 299;talk 3000;", 2).lay(0), 2);
        Check.due("an empty stretch between", twoKeys("songs 300;songs 1;songs 299;talk 3000;", 2).lay(0), 2);
        SongHour x = twoKeys("talk 3300;songs 300;", 2);
        x.lay(0);
        Check.clock(x, 0, "songs 299;talk 3301;");
        Check.due("over the hour's end", x.lay(0), 0);
        Check.due("an hour on", x.lay(0), 1);
        SongHour y = twoKeys("talk 3299;songs 301;", 2);
        y.lay(0);
        Check.clock(y, 0, "songs 299;talk 3301;");
        Check.due("a second ahead of the hour's end", y.lay(0), 1);
        SongHour z = Station.with("keys 0;", "songs 300;talk 3300;");
        z.song(300, 0, 11, 0, false);
        Check.due("none played yet: any key goes at second 0", z.lay(0), 1);
        // Of a row it is the last song's key that the next stretch's first must go with.
        SongHour w = Station.with("gap 60;artist 0;keys 1;slack 0;", "songs 500;songs 100;talk 3000;");
        w.song(200, 0, 3, 0, false);
        w.song(300, 0, 4, 0, false);
        w.song(100, 0, 5, 0, false);
        Check.due("the row's last", w.lay(0), 2);
        Station.duePlays("the row's last", w, 0, 0, 1, 2);
    }

    private static void moodIsOfAll() {
        Check.sentence("all have the MOOD, if one is told");
        for (int mood = 0; mood < 4; mood++) {
            for (int other = 0; other < 4; other++) {
                SongHour x = Station.with("slack 0;", "songs 500 mood " + mood + ";talk 3100;");
                x.song(200, 0, 0, mood, false);
                x.song(300, 1, 0, other, false);
                Check.due("moods " + mood + " and " + other, x.lay(0), mood == other ? 1 : 0);
                SongHour y = Station.with("slack 0;", "songs 500;talk 3100;");
                y.song(200, 0, 0, mood, false);
                y.song(300, 1, 0, other, false);
                Check.due("none told, " + mood + " and " + other, y.lay(0), 1);
            }
        }
        SongHour z = Station.with("slack 0;", "songs 200 mood 1;songs 300;talk 3100;");
        z.song(200, 0, 0, 1, false);
        z.song(300, 1, 0, 2, false);
        Check.due("told of one stretch, not of the next", z.lay(0), 2);
    }

    private static void newOnesAreEnough() {
        Check.sentence("as many as told, or more, are NEW");
        for (int wanted = 0; wanted <= 4; wanted++) {
            for (int fresh = 0; fresh <= 4; fresh++) {
                SongHour x = Station.with("slack 0;", "songs 400 new " + wanted + ";talk 3200;");
                for (int s = 0; s < 4; s++) {
                    x.song(100, s, 0, 0, s < fresh);
                }
                Check.due(fresh + " are new, wanted are " + wanted, x.lay(0), fresh >= wanted ? 1 : 0);
            }
        }
        SongHour y = Station.with(FREE + "slack 0;most 3;", "songs 300 new 4;songs 300 new 3;talk 3000;");
        y.song(100, 0, 0, 0, true);
        Check.due("four of three at most; three of three", y.lay(0), 1);
        SongHour z = Station.with("slack 0;", "songs 200 new 1;songs 300;talk 3100;");
        z.song(200, 0, 0, 0, true);
        z.song(300, 1, 0, 0, false);
        Check.due("told of one stretch, not of the next", z.lay(0), 2);
        // The warmer and the longer rows have too few.
        SongHour w = Station.with("", "songs 300 new 1;talk 3300;");
        w.song(300, 0, 0, 0, false);
        w.song(250, 1, 0, 0, true);
        w.vote(0, 9);
        Check.due("less of it is left without new ones", w.lay(0), 1);
        Station.duePlays("the new one", w, 0, 1);
    }

    private static void fewestSecondsAreLeft() {
        Check.sentence("Of all such ROWS that with the fewest seconds left");
        SongHour x = stretch("", 600, 541, 270, 271, 150, 180);
        for (int i = 0; i < 20; i++) {
            x.ask(0);
        }
        x.lay(0);
        // 270 + 150 + 180 leaves none, 541 leaves 59 and has all the heat.
        Station.duePlays("none left", x, 0, 1, 3, 4);
        SongHour y = stretch("", 600, 300, 298, 301);
        y.ask(0);
        y.ask(1);
        y.lay(0);
        Station.duePlays("one left, not two", y, 0, 1, 2);
        SongHour z = stretch("slack 900;", 899, 40, 900, 30);
        z.lay(0);
        Station.duePlays("seventy of 899", z, 0, 0, 2);
        Check.due("left", z.left(0, 0), 829);
    }

    private static void fewestSecondsWhateverTheOrder() {
        Check.sentence("Of all such ROWS that with the fewest seconds left");
        int[] lengths = {100, 200, 300, 400};
        for (int order = 0; order < 256; order++) {
            int[] picked = {order & 3, order >> 2 & 3, order >> 4 & 3, order >> 6};
            if ((1 << picked[0] | 1 << picked[1] | 1 << picked[2] | 1 << picked[3]) != 15) {
                continue;
            }
            SongHour x = Station.with("slack 99;most 1;", "songs 100;songs 299;songs 301;songs 499;talk 2401;");
            for (int i : picked) {
                Station.songs(x, lengths[i]);
            }
            Check.due("order " + order, x.lay(0), 4);
            for (int p = 0; p < x.count(2); p++) {
                Check.due("order " + order + ", play " + p, picked[x.play(p, 0)], p);
            }
        }
    }

    private static void mostHeatTogether() {
        Check.sentence("of like ones the most HEAT together (as it is when the HOUR is LAID)");
        SongHour x = stretch("slack 0;", 600, 600, 300, 300, 300, 150, 150);
        x.vote(0, 9);
        x.vote(2, 5);
        x.vote(3, 5);
        x.lay(0);
        Station.duePlays("5 + 5 beats 9", x, 0, 2, 3);
        SongHour y = stretch("slack 0;", 600, 600, 300, 300);
        y.vote(0, 9);
        y.vote(1, 4);
        y.vote(2, 4);
        y.lay(0);
        Station.duePlays("9 beats 4 + 4", y, 0, 0);
        SongHour z = stretch("slack 0;most 1;", 600, 600, 600, 600);
        z.ask(1);
        z.vote(2, 9);
        z.vote(2, 7);
        z.lay(0);
        Station.duePlays("16 beats an ask", z, 0, 2);
        SongHour w = stretch("slack 0;most 1;", 600, 600, 600, 600);
        w.ask(2);
        w.vote(1, 9);
        w.vote(1, 6);
        w.lay(0);
        Station.duePlays("15 does not: the lesser number", w, 0, 1);
        // Votes that ten others pushed out warm no more.
        SongHour v = stretch("slack 0;most 1;", 600, 600, 600);
        v.vote(1, 9);
        for (int i = 0; i < 10; i++) {
            v.vote(1, 0);
        }
        v.lay(0);
        Station.duePlays("eleven votes ago", v, 0, 0);
    }

    private static void heatIsOfTheHoursLaying() {
        Check.sentence("(as it is when the HOUR is LAID)");
        SongHour x = Station.with(FREE + "slack 0;most 1;", "songs 300;songs 300;songs 300;talk 2700;");
        Station.songs(x, 300, 300);
        x.vote(0, 9);
        x.ask(1);
        x.lay(0);
        Station.duePlays("the ask warms to the hour's end", x, 0, 1, 1, 1);
        Check.due("it was done but once", x.told(1, 4), 1);
        x.lay(0);
        Station.duePlays("the next hour is colder", x, 3, 0, 0, 0);
    }

    private static void theFirstOfLikeRows() {
        Check.sentence("of like ones the first (SONG by SONG the lesser number; one that ends ahead of one that goes on)");
        SongHour x = stretch("slack 0;", 600, 300, 300, 600, 300);
        x.lay(0);
        Station.duePlays("0 1, not 0 3, 1 0 or 2", x, 0, 0, 1);
        SongHour y = stretch("slack 0;", 600, 600, 300, 300);
        y.lay(0);
        Station.duePlays("0, not 1 2", y, 0, 0);
        SongHour z = stretch("slack 0;", 600, 200, 400, 200, 200);
        z.lay(0);
        Station.duePlays("0 1, not 0 2 3", z, 0, 0, 1);
        SongHour w = stretch("slack 0;", 600, 200, 200, 200, 400);
        w.lay(0);
        Station.duePlays("0 1 2, not 0 3", w, 0, 0, 1, 2);
        SongHour v = stretch(FREE + "slack 0;", 600, 150);
        v.lay(0);
        Station.duePlays("0 0 0 0", v, 0, 0, 0, 0, 0);
        // The last songs of a full row: of like lengths the lesser number.
        SongHour u = stretch("slack 0;", 600, 100, 100, 100, 299, 300, 300);
        u.lay(0);
        Station.duePlays("0 1 2 4, not 0 1 2 5 or 4 5", u, 0, 0, 1, 2, 4);
        // More heat far along beats a lesser number ahead; like heat does not.
        SongHour t = stretch("slack 0;most 2;", 600, 300, 300, 300);
        t.vote(1, 1);
        t.vote(2, 1);
        t.lay(0);
        Station.duePlays("1 2, the warmest", t, 0, 1, 2);
    }

    private static void emptyStretches() {
        Check.sentence("Without one the STRETCH is EMPTY.");
        SongHour x = Station.with("slack 0;", "songs 299;songs 300;songs 301;talk 2700;");
        Station.songs(x, 300);
        Check.due("one of three", x.lay(0), 1);
        Check.due("two are empty", x.count(3), 2);
        Check.due("left(0, 0)", x.left(0, 0), 299);
        Check.due("left(0, 1)", x.left(0, 1), 0);
        Check.due("left(0, 2)", x.left(0, 2), 301);
        Check.due("one play", x.count(2), 1);
        Check.due("its item", x.play(0, 3), 1);
        SongHour y = Station.with("", "songs 450;".repeat(8));
        Check.due("no songs at all", y.lay(0), 0);
        Check.due("eight are empty", y.count(3), 8);
        Check.due("seconds left", y.count(4), 3600);
    }

    private static void oldestAsksAreDone() {
        Check.sentence("Its SONGS are PLAYED: an ASK for each (the oldest) is done.");
        SongHour x = stretch(FREE + "slack 0;", 400, 100, 400);
        x.ask(0);
        x.ask(0);
        x.ask(0);
        x.ask(1);
        x.lay(0);
        Station.duePlays("four times", x, 0, 0, 0, 0, 0);
        Check.due("three were open, none is", x.told(0, 3), 0);
        Check.due("three were done, not four", x.told(0, 4), 3);
        Check.due("not played: it stays open", x.told(1, 3), 1);
        Check.due("and is not done", x.told(1, 4), 0);
        Check.due("all open", x.count(5), 1);
        SongHour y = stretch("slack 0;", 400, 100, 300);
        y.ask(0);
        y.lay(0);
        Check.due("one each: song 0", y.told(0, 4), 1);
        Check.due("song 1 was not asked for", y.told(1, 4), 0);
        SongHour z = stretch("slack 0;", 399, 400);
        z.ask(0);
        z.lay(0);
        Check.due("an empty stretch does none", z.told(0, 3), 1);
    }

    /** An object with so many plays, of songs of 30 seconds with any gap. */
    private static SongHour withPlays(int plays) {
        SongHour x = Station.with(FREE + "slack 0;", "songs 120;".repeat(7) + "talk 2760;");
        Station.songs(x, 30);
        int rest = plays;
        while (rest >= 32) {
            x.lay(0);
            rest -= 28;
        }
        while (rest > 0) {
            int n = Math.min(4, rest);
            Check.clock(x, 1, "songs " + 30 * n + ";talk " + (3600 - 30 * n) + ";");
            x.lay(1);
            rest -= n;
        }
        Check.due("plays ahead", x.count(2), plays);
        return x;
    }

    private static void playsAre300() {
        Check.sentence("PLAYS are numbered, 300 at most; an HOUR is not LAID, if there might be more (PLAYS and four for each STRETCH of the CLOCK above 300).");
        for (int stretches = 0; stretches <= 8; stretches++) {
            int most = 300 - 4 * stretches;
            for (int plays = most; plays <= Math.min(300, most + 4); plays++) {
                SongHour x = withPlays(plays);
                int hours = x.count(0);
                String clock = "songs 1;".repeat(Math.min(stretches, 7)) + "talk 1;".repeat(Math.max(0, 7 - stretches))
                        + (stretches == 8 ? "songs 3593;" : "talk 3593;");
                Check.due("the clock", Check.clock(x, 2, clock), 8);
                boolean isLaid = plays <= most;
                Check.due(plays + " plays and " + stretches + " stretches", x.lay(2), isLaid ? 0 : NONE);
                Check.due("hours", x.count(0), hours + (isLaid ? 1 : 0));
                Check.due("plays stay", x.count(2), plays);
                Check.due("empty", x.count(3), isLaid ? stretches : 0);
            }
        }
        SongHour y = withPlays(296);
        Check.clock(y, 2, "songs 120;talk 3480;");
        Check.due("the last four", y.lay(2), 1);
        Check.due("300", y.count(2), 300);
        int last = 3600 * (y.count(0) - 1);
        Check.due("play(299, 0)", y.play(299, 0), 0);
        Check.due("play(299, 1)", y.play(299, 1), last + 90);
        Check.due("play(299, 2)", y.play(299, 2), y.count(0) - 1);
        Check.due("play(299, 3)", y.play(299, 3), 0);
        Check.dueThrow("play(300, 0)", () -> y.play(300, 0), Check.ELEMENT);
        Check.due("at the last", y.at(last + 119), 299);
        Check.due("behind the last", y.at(last + 120), NONE);
        Check.due("rights of all", y.rights(0, 0, HIGHEST), 9000);
        Check.due("how often played", y.told(0, 1), 300);
        Check.due("not beyond", y.lay(2), NONE);
        Check.clock(y, 3, "talk 3600;");
        Check.due("talk goes on", y.lay(3), 0);
    }

    private static void rightsHaveBounds() {
        Check.sentence("RIGHTS of an ARTIST from second a to second b (b not in it): all seconds in it in which a SONG of that one is PLAYED.");
        SongHour x = Station.with(FREE + "slack 0;most 2;", "talk 100;songs 90;talk 3410;");
        x.song(30, 0, 0, 0, false);
        x.song(60, 11, 0, 0, false);
        x.lay(0);
        x.lay(0);
        // Artist 0 at 100 to 129 and 3700 to 3729, artist 11 at 130 to 189 and 3730 to 3789.
        int[][] want = {{0, 100, 101, 1}, {0, 99, 100, 0}, {0, 129, 130, 1}, {0, 130, 131, 0}, {0, 100, 130, 30},
            {0, 100, 129, 29}, {0, 101, 130, 29}, {11, 130, 131, 1}, {11, 129, 130, 0}, {11, 189, 190, 1},
            {11, 190, 191, 0}, {11, 0, 190, 60}, {11, 0, 189, 59}, {0, 0, 3700, 30}, {0, 0, 3701, 31},
            {0, 129, 3701, 2}, {0, 130, 3700, 0}, {11, 189, 3731, 2}, {0, 0, 7200, 60}, {11, 0, 7200, 120},
            {0, 115, 115, 0}, {0, 0, 0, 0}, {0, -5, 101, 1}, {0, LOWEST, HIGHEST, 60}, {0, LOWEST, LOWEST, 0},
            {0, HIGHEST, HIGHEST, 0}, {0, LOWEST, 0, 0}, {0, LOWEST, -1, 0}, {11, 3789, HIGHEST, 1},
            {11, 3790, HIGHEST, 0}, {5, LOWEST, HIGHEST, 0}};
        for (int[] w : want) {
            Check.due("rights(" + w[0] + ", " + w[1] + ", " + w[2] + ")", x.rights(w[0], w[1], w[2]), w[3]);
        }
        // Two songs of one artist one behind the other, and a song that was never played.
        SongHour y = Station.with(FREE + "slack 0;most 2;", "songs 91;talk 3509;");
        y.song(30, 7, 0, 0, false);
        y.song(61, 7, 0, 0, false);
        y.song(900, 7, 0, 0, false);
        y.lay(0);
        Check.due("both", y.rights(7, 0, 91), 91);
        Check.due("the seam", y.rights(7, 29, 31), 2);
        Check.due("the other artist", y.rights(0, 0, 91), 0);
    }

    private static void layAnswers() {
        Check.sentence("The next HOUR is LAID by CLOCK k: how many of its STRETCHES are filled");
        for (int filled = 0; filled <= 8; filled++) {
            SongHour x = Station.with(FREE + "slack 0;most 1;", clockOf(filled));
            Station.songs(x, 400);
            if (filled == 8) {
                Station.songs(x, 800);
            }
            Check.due(filled + " of eight", x.lay(0), filled);
            Check.due("empty", x.count(3), 8 - filled);
            Check.due("hours", x.count(0), 1);
        }
        SongHour y = Station.with("", "talk 3600;");
        Station.songs(y, 300);
        Check.due("talk alone", y.lay(0), 0);
        for (int k = 1; k < 6; k++) {
            Check.clock(y, k, "talk 1;".repeat(k) + "talk " + (3600 - k) + ";");
        }
        for (int k = 1; k < 6; k++) {
            Check.due("lay(" + k + ")", y.lay(k), 0);
            Check.due("the last item of hour " + k, y.left(k, k), 0);
            int h = k;
            Check.dueThrow("one more of hour " + k, () -> y.left(h, h + 1), Check.ELEMENT);
        }
    }

    /** Eight stretches, as many of 400 seconds as told, or seven and one of 800. */
    private static String clockOf(int filled) {
        StringBuilder clock = new StringBuilder();
        int rest = 3600;
        for (int i = 0; i < 7; i++) {
            int n = i < filled ? 400 : 399;
            clock.append("songs ").append(n).append(";");
            rest -= n;
        }
        return clock.append("songs ").append(rest).append(";").toString();
    }

    private static void layRefuses() {
        Check.sentence("NONE: it has no ITEMS (none were told), there are 168, or there might be too many PLAYS. IndexOutOfBoundsException: k is not 0 to 5.");
        SongHour x = new SongHour();
        for (int k = 0; k < 6; k++) {
            Check.due("no clock told, lay(" + k + ")", x.lay(k), NONE);
        }
        Check.clock(x, 3, "talk 3600;");
        for (int k = 0; k < 6; k++) {
            Check.due("clock 3 told, lay(" + k + ")", x.lay(k), k == 3 ? 0 : NONE);
        }
        Check.clock(x, 4, "talk 3599;");
        Check.due("a clock with a fault", x.lay(4), NONE);
        Check.due("one hour", x.count(0), 1);
        int[] wrong = {-1, 6, 7, LOWEST, HIGHEST};
        for (int k : wrong) {
            Check.dueThrow("lay(" + k + ")", () -> x.lay(k), Check.INDEX);
            Check.due("one hour", x.count(0), 1);
        }
        for (int h = 1; h < 168; h++) {
            x.lay(3);
        }
        Check.due("there are 168", x.lay(3), NONE);
        Check.due("there are 168, and no items", x.lay(0), NONE);
        for (int k : wrong) {
            Check.dueThrow("there are 168, lay(" + k + ")", () -> x.lay(k), Check.INDEX);
        }
    }

    private static void clocksAreToldAnew() {
        Check.sentence("CLOCK k is the tape: how many ITEMS");
        SongHour x = Station.with(FREE + "slack 0;", "songs 300 mood 3 new 4;talk 100;songs 300 new 2;talk 2900;");
        Station.songs(x, 300);
        Check.due("mood 3, four new ones", x.lay(0), 0);
        Check.clock(x, 0, "songs 300;songs 300;songs 300;talk 2700;");
        Check.due("nothing of the earlier text stays", x.lay(0), 3);
        Check.clock(x, 0, "songs 300 mood 0;talk 300;talk 3000;");
        Check.due("talk where songs were", x.lay(0), 1);
        Check.due("left of talk", x.left(2, 1), 0);
        Check.due("the hour ahead stays", x.play(1, 3), 1);
        // Each clock is its own, and a text that was refused leaves nothing in the next one.
        Check.clock(x, 1, "songs 300 mood 2 new 3;talk 3299;");
        Check.clock(x, 1, "songs 300;talk 3300;");
        Check.due("behind a refused text", x.lay(1), 1);
        Check.due("clock 0 is as it was", x.lay(0), 1);
    }

    private static void toldTells() {
        Check.sentence("Of SONG s: 0 HEAT, 1 how often PLAYED, 2 the second at which it began last (NONE), 3 ASKS open, 4 those that were done. -2: no such SONG, or another what.");
        SongHour x = new SongHour();
        Check.due("no song at all", x.told(0, 0), -2);
        Check.rules(x, FREE + "slack 0;most 1;");
        Check.clock(x, 0, "songs 300;talk 1000;songs 300;talk 2000;");
        Station.songs(x, 300, 200);
        x.vote(0, 7);
        x.ask(0);
        x.ask(1);
        int[] ahead = {22, 0, NONE, 1, 0};
        int[] behind = {7, 2, 1300, 0, 1};
        int[] later = {7, 4, 4900, 0, 1};
        int[] other = {15, 0, NONE, 1, 0};
        dueTold(x, 0, ahead);
        x.lay(0);
        dueTold(x, 0, behind);
        x.lay(0);
        dueTold(x, 0, later);
        dueTold(x, 1, other);
        int[] wrong = {-1, 5, 6, LOWEST, HIGHEST};
        for (int what : wrong) {
            Check.due("told(0, " + what + ")", x.told(0, what), -2);
            Check.due("told(2, " + what + ")", x.told(2, what), -2);
        }
        int[] songs = {-1, 2, 23, 24, LOWEST, HIGHEST};
        for (int s : songs) {
            for (int what = 0; what < 5; what++) {
                Check.due("told(" + s + ", " + what + ")", x.told(s, what), -2);
            }
        }
        SongHour y = Station.with("slack 0;", "songs 300;talk 3300;");
        Station.songs(y, 300);
        y.lay(0);
        Check.due("began at second 0", y.told(0, 2), 0);
    }

    private static void dueTold(SongHour x, int s, int[] want) {
        for (int what = 0; what < 5; what++) {
            Check.due("told(" + s + ", " + what + ")", x.told(s, what), want[what]);
        }
    }

    private static void playTells() {
        Check.sentence("Of PLAY p: 0 SONG, 1 the second at which it began, 2 HOUR, 3 the ITEM (0 the first) of its CLOCK. NoSuchElementException: there is none such, or another what.");
        SongHour x = Station.with(FREE + "slack 0;most 2;", "songs 500;" + "talk 100;".repeat(6) + "songs 2500;");
        Check.dueThrow("none yet", () -> x.play(0, 0), Check.ELEMENT);
        Station.songs(x, 300, 200);
        x.lay(0);
        Check.clock(x, 0, "talk 100;".repeat(7) + "songs 2900;");
        Check.clock(x, 1, "talk 100;".repeat(6) + "talk 2500;songs 500;");
        x.lay(1);
        int[][] want = {{0, 0, 0, 0}, {1, 300, 0, 0}, {0, 6700, 1, 7}, {1, 7000, 1, 7}};
        int[] wrong = {-1, 4, 5, LOWEST, HIGHEST};
        for (int p = 0; p < 4; p++) {
            for (int what = 0; what < 4; what++) {
                Check.due("play(" + p + ", " + what + ")", x.play(p, what), want[p][what]);
            }
            for (int what : wrong) {
                int of = p;
                Check.dueThrow("play(" + p + ", " + what + ")", () -> x.play(of, what), Check.ELEMENT);
            }
        }
        int[] plays = {-1, 4, 299, 300, LOWEST, HIGHEST};
        for (int p : plays) {
            for (int what = -1; what <= 4; what++) {
                int which = what;
                Check.dueThrow("play(" + p + ", " + what + ")", () -> x.play(p, which), Check.ELEMENT);
            }
        }
    }

    private static void leftTells() {
        Check.sentence("The seconds left of ITEM i of HOUR h (0 of talk; all of an EMPTY STRETCH). NoSuchElementException: there is none such.");
        SongHour x = Station.with("slack 60;", "talk 10;songs 360;songs 361;songs 30;talk 2839;");
        Check.dueThrow("no hour yet", () -> x.left(0, 0), Check.ELEMENT);
        Station.songs(x, 300);
        x.lay(0);
        int[] want = {0, 60, 361, 30, 0};
        for (int i = 0; i < 5; i++) {
            Check.due("left(0, " + i + ")", x.left(0, i), want[i]);
        }
        int[] items = {-1, 5, 7, 8, LOWEST, HIGHEST};
        for (int i : items) {
            Check.dueThrow("left(0, " + i + ")", () -> x.left(0, i), Check.ELEMENT);
        }
        int[] hours = {-1, 1, 167, 168, LOWEST, HIGHEST};
        for (int h : hours) {
            Check.dueThrow("left(" + h + ", 0)", () -> x.left(h, 0), Check.ELEMENT);
        }
        // Another text for the clock leaves the hour that was laid as it was.
        Check.clock(x, 0, "talk 1;".repeat(7) + "talk 3593;");
        Check.due("left(0, 2) then", x.left(0, 2), 361);
        Check.dueThrow("left(0, 5) then", () -> x.left(0, 5), Check.ELEMENT);
        x.lay(0);
        Check.due("left(1, 7)", x.left(1, 7), 0);
        Check.dueThrow("left(1, 8)", () -> x.left(1, 8), Check.ELEMENT);
        // Where eight items of an hour end, the next hour's do not begin.
        Check.dueThrow("left(0, 8)", () -> x.left(0, 8), Check.ELEMENT);
    }

    private static void atTells() {
        Check.sentence("The PLAY at a second; NONE: none then.");
        SongHour x = Station.with(FREE + "slack 10;most 2;", "songs 90;talk 3480;songs 30;");
        Check.due("none yet", x.at(0), NONE);
        x.song(30, 0, 0, 0, false);
        x.song(50, 0, 0, 0, false);
        x.lay(0);
        x.lay(0);
        int[][] want = {{LOWEST, NONE}, {-1, NONE}, {0, 0}, {29, 0}, {30, 1}, {79, 1}, {80, NONE}, {89, NONE}, {90, NONE},
            {3569, NONE}, {3570, 2}, {3599, 2}, {3600, 3}, {3629, 3}, {3630, 4}, {3679, 4}, {3680, NONE},
            {7169, NONE}, {7170, 5}, {7199, 5}, {7200, NONE}, {604800, NONE}, {HIGHEST, NONE}};
        // 30 + 50 leaves 10 of 90.
        Check.due("left(0, 0)", x.left(0, 0), 10);
        for (int[] pair : want) {
            Check.due("at(" + pair[0] + ")", x.at(pair[0]), pair[1]);
        }
    }

    private static void rightsRefuse() {
        Check.sentence("RIGHTS; NONE: no such ARTIST, or b below a.");
        SongHour x = new SongHour();
        int[] wrong = {-1, 12, 13, LOWEST, HIGHEST};
        for (int artist : wrong) {
            Check.due("artist " + artist, x.rights(artist, 0, 1), NONE);
            Check.due("artist " + artist, x.rights(artist, 1, 0), NONE);
        }
        int[][] below = {{1, 0}, {0, -1}, {HIGHEST, LOWEST}, {HIGHEST, HIGHEST - 1}, {LOWEST + 1, LOWEST}};
        for (int artist = 0; artist < 12; artist++) {
            Check.due("artist " + artist + " of no songs", x.rights(artist, 0, 3600), 0);
            for (int[] pair : below) {
                Check.due("rights from " + pair[0] + " to " + pair[1], x.rights(artist, pair[0], pair[1]), NONE);
                Check.due("rights from " + pair[1] + " to itself", x.rights(artist, pair[1], pair[1]), 0);
            }
        }
    }

    private static void countTells() {
        Check.sentence("0 HOURS LAID, 1 SONGS, 2 PLAYS, 3 EMPTY STRETCHES, 4 seconds left in all STRETCHES, 5 ASKS open, 6 bytes of the tape. NONE for another what.");
        SongHour x = new SongHour();
        dueCounts(x, "of a new object", 0, 0, 0, 0, 0, 0, 0);
        Check.rules(x, "gap 0;artist 0;slack 60;most 1;");
        Check.clock(x, 0, "talk 5;songs 310;songs 299;songs 300;talk 2686;");
        Station.songs(x, 300, 900);
        x.ask(0);
        x.ask(0);
        x.ask(0);
        x.ask(1);
        x.feed(1, 2, 3, 4, 5);
        dueCounts(x, "ahead of the first hour", 0, 2, 0, 0, 0, 4, 20);
        x.lay(0);
        dueCounts(x, "behind the first hour", 1, 2, 2, 1, 309, 2, 20);
        x.lay(0);
        dueCounts(x, "behind the second hour", 2, 2, 4, 2, 618, 1, 20);
        x.end(3);
        dueCounts(x, "behind end(3)", 2, 2, 4, 2, 618, 1, 3);
        int[] wrong = {-1, 7, 8, LOWEST, HIGHEST};
        for (int what : wrong) {
            Check.due("count(" + what + ")", x.count(what), NONE);
        }
    }

    private static void dueCounts(SongHour x, String when, int... want) {
        for (int what = 0; what < want.length; what++) {
            Check.due("count(" + what + ") " + when, x.count(what), want[what]);
        }
    }

    private static void callsAre512() {
        Check.sentence("An object is used for at most 512 calls after it has been made");
        SongHour x = new SongHour();
        x.song(300, 0, 0, 0, false);
        for (int i = 2; i <= 512; i++) {
            Check.due("vote in call " + i, x.vote(0, i % 10), i >= 11 ? 45 : Math.min(44, i * (i + 1) / 2 - 1));
        }
        SongHour y = new SongHour();
        for (int i = 1; i <= 512; i++) {
            Check.due("feed in call " + i, y.feed(i, i, i, i, i), i <= 13 ? 20 * i : NONE);
        }
        SongHour z = new SongHour();
        z.feed(0x74616c6b, 0x20333630, 0x303b2020, 0x20202020, 0x20202020);
        z.clock(5);
        for (int i = 3; i <= 512; i++) {
            Check.due("lay in call " + i, z.lay(5), i <= 170 ? 0 : NONE);
        }
    }
}
