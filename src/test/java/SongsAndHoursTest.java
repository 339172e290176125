/** Promises 8 to 16 and 18: songs, votes and asks, hours and how their stretches are filled, rights. */
public final class SongsAndHoursTest {
    private static final String FREE = "gap 0;artist 0;";

    private SongsAndHoursTest() { }

    public static void main(String[] args) {
        songsAreNumbered();
        votesMakeHeat();
        asksMakeHeat();
        layRefuses();
        layStopsAt168Hours();
        layStopsAheadOf300Plays();
        leastIsLeft();
        slackBoundsWhatIsLeft();
        mostBoundsTheRow();
        gapKeepsSongsApart();
        artistKeepsArtistsApart();
        keysGoTogether();
        keysGoWithTheSongAhead();
        moodAndNew();
        heatDecides();
        heatIsThatOfTheHoursBeginning();
        numbersDecide();
        asksAreDone();
        playsAreTold();
        whatIsLeftIsKept();
        atFindsPlays();
        rightsCountSeconds();
        countsAreKept();
        aDearHourEnds();
        Check.finish("SongsAndHoursTest");
    }

    private static void songsAreNumbered() {
        SongHour x = new SongHour();
        Check.due("29 seconds", x.song(29, 0, 0, 0, false), -1);
        Check.due("901 seconds", x.song(901, 0, 0, 0, false), -1);
        Check.due("artist -1", x.song(30, -1, 0, 0, false), -1);
        Check.due("artist 12", x.song(30, 12, 0, 0, false), -1);
        Check.due("key -1", x.song(30, 0, -1, 0, false), -1);
        Check.due("key 12", x.song(30, 0, 12, 0, false), -1);
        Check.due("mood -1", x.song(30, 0, 0, -1, true), -1);
        Check.due("mood 4", x.song(30, 0, 0, 4, true), -1);
        Check.due("far off", x.song(Integer.MIN_VALUE, Integer.MAX_VALUE, 0, 0, true), -1);
        Check.due("no songs", x.count(1), 0);
        Check.due("the least", x.song(30, 0, 0, 0, false), 0);
        Check.due("the most", x.song(900, 11, 11, 3, true), 1);
        for (int s = 2; s < 24; s++) {
            Check.due("song " + s, x.song(100, 1, 1, 1, false), s);
        }
        Check.due("a 25th", x.song(100, 1, 1, 1, false), -1);
        Check.due("24 songs", x.count(1), 24);
        Check.due("asks of 24 songs", x.ask(23) + x.count(5), 2);
    }

    private static void votesMakeHeat() {
        SongHour x = new SongHour();
        Check.due("no song", x.vote(0, 1), -1);
        Station.songs(x, 100, 100);
        Check.due("song -1", x.vote(-1, 1), -1);
        Check.due("song 2", x.vote(2, 1), -1);
        Check.due("mark -1", x.vote(0, -1), -1);
        Check.due("mark 10", x.vote(0, 10), -1);
        Check.due("mark 0", x.vote(0, 0), 0);
        int[] marks = {9, 8, 7, 6, 5, 4, 3, 2, 1};
        int sum = 0;
        for (int m : marks) {
            sum += m;
            Check.due("vote " + m, x.vote(0, m), sum);
        }
        Check.due("the 0 goes", x.vote(0, 9), 54);
        Check.due("the 9 goes", x.vote(0, 1), 46);
        Check.due("the 8 goes", x.vote(0, 0), 38);
        Check.due("another song", x.vote(1, 5), 5);
        x.ask(0);
        Check.due("an ask too", x.vote(0, 0), 46);
        Check.due("told", x.told(0, 0), 46);
    }

    private static void asksMakeHeat() {
        SongHour x = new SongHour();
        Check.due("no song", x.ask(0), -1);
        Station.songs(x, 100, 100);
        Check.due("song -1", x.ask(-1), -1);
        Check.due("song 2", x.ask(2), -1);
        for (int i = 1; i <= 20; i++) {
            Check.due("ask " + i, x.ask(0), i);
            Check.due("heat of " + i, x.told(0, 0), 15 * i);
        }
        Check.due("a 21st", x.ask(0), -1);
        Check.due("stays", x.told(0, 3), 20);
        Check.due("twenty for each song", x.ask(1), 1);
        Check.due("all", x.count(5), 21);
    }

    private static void layRefuses() {
        SongHour x = new SongHour();
        Check.dueThrow("lay(-1)", () -> x.lay(-1), Check.INDEX);
        Check.dueThrow("lay(6)", () -> x.lay(6), Check.INDEX);
        Check.dueThrow("lay(2147483647)", () -> x.lay(Integer.MAX_VALUE), Check.INDEX);
        Check.due("no items", x.lay(0), -1);
        Check.clock(x, 0, "talk 1;");
        Check.due("a clock with a fault", x.lay(0), -1);
        Check.due("no hours", x.count(0), 0);
        Check.clock(x, 0, "talk 3600;");
        Check.due("talk alone", x.lay(0), 0);
        Check.due("an hour", x.count(0), 1);
        Check.due("another clock", x.lay(1), -1);
    }

    private static void layStopsAt168Hours() {
        SongHour x = Station.with("", "talk 3000;songs 600;");
        for (int h = 0; h < 168; h++) {
            Check.due("hour " + h, x.lay(0), 0);
        }
        Check.due("hour 168", x.lay(0), -1);
        Check.due("168 hours", x.count(0), 168);
        Check.due("left(167, 1)", x.left(167, 1), 600);
        Check.dueThrow("left(168, 0)", () -> x.left(168, 0), Check.ELEMENT);
        Check.due("empty", x.count(3), 168);
        Check.due("seconds left", x.count(4), 168 * 600);
        Check.dueThrow("lay(6) all the same", () -> x.lay(6), Check.INDEX);
    }

    private static void layStopsAheadOf300Plays() {
        SongHour x = Station.with(FREE + "slack 0;", "songs 120;songs 120;songs 120;songs 120;songs 120;songs 120;songs 2880;");
        Station.songs(x, 30);
        for (int h = 0; h < 12; h++) {
            Check.due("six stretches with four songs each, hour " + h, x.lay(0), 6);
        }
        Check.due("plays", x.count(2), 288);
        Check.due("288 + 28 are too many", x.lay(0), -1);
        Check.due("no hour more", x.count(0), 12);
        Check.clock(x, 1, "songs 120;songs 120;songs 120;songs 3240;");
        Check.due("288 + 16 are too many", x.lay(1), -1);
        Check.clock(x, 1, "songs 120;songs 120;songs 3360;");
        Check.due("288 + 12 are not", x.lay(1), 2);
        Check.due("plays then", x.count(2), 296);
        Check.clock(x, 1, "songs 120;talk 3480;");
        Check.due("296 + 4 are not", x.lay(1), 1);
        Check.due("all plays", x.count(2), 300);
        Check.due("the last one", x.play(299, 1), 13 * 3600 + 90);
        Check.dueThrow("play(300, 0)", () -> x.play(300, 0), Check.ELEMENT);
        Check.due("300 + 4", x.lay(1), -1);
        Check.rules(x, FREE + "most 1;");
        Check.due("four for each, whatever most is", x.lay(1), -1);
        Check.clock(x, 1, "talk 3600;");
        Check.due("talk goes on", x.lay(1), 0);
    }

    private static void leastIsLeft() {
        SongHour x = Station.with("artist 0;", "songs 1000;talk 2600;");
        Station.songs(x, 300, 450, 549, 690);
        Check.due("laid", x.lay(0), 1);
        Station.duePlays("300 + 690 leaves 10, 450 + 549 leaves 1", x, 0, 1, 2);
        Check.due("left", x.left(0, 0), 1);
        SongHour y = Station.with("", "songs 1000;talk 2600;");
        Station.songs(y, 900, 400, 300, 300, 40);
        y.lay(0);
        Station.duePlays("400 + 300 + 300 beats 900 + 40 at the end", y, 0, 1, 2, 3);
        Check.due("none left", y.left(0, 0), 0);
        SongHour z = Station.with("", "songs 299;talk 3301;");
        Station.songs(z, 300);
        Check.due("one second too long", z.lay(0), 0);
        SongHour w = Station.with("", "songs 300;talk 3300;");
        Station.songs(w, 300);
        Check.due("just long enough", w.lay(0), 1);
    }

    private static void slackBoundsWhatIsLeft() {
        SongHour x = Station.with("slack 10;", "songs 310;talk 3290;");
        Station.songs(x, 300);
        Check.due("ten left", x.lay(0), 1);
        SongHour y = Station.with("slack 9;", "songs 310;talk 3290;");
        Station.songs(y, 300);
        Check.due("nine may be left", y.lay(0), 0);
        Check.due("all of it left", y.left(0, 0), 310);
        SongHour z = Station.with("slack 900;", "songs 899;talk 2701;");
        Station.songs(z, 900);
        Check.due("no row of no songs", z.lay(0), 0);
        SongHour w = Station.with("", "songs 360;songs 361;talk 2879;");
        Station.songs(w, 300, 300);
        Check.due("sixty without a rule", w.lay(0), 1);
        Check.due("61 are too many", w.left(0, 1), 361);
    }

    private static void mostBoundsTheRow() {
        for (int most = 1; most <= 4; most++) {
            SongHour x = Station.with(FREE + "slack 900;most " + most + ";", "songs 500;talk 3100;");
            Station.songs(x, 100);
            Check.due("most " + most, x.lay(0), 1);
            Check.due("plays of most " + most, x.count(2), most);
            Check.due("left of most " + most, x.left(0, 0), 500 - 100 * most);
        }
    }

    private static void gapKeepsSongsApart() {
        SongHour x = Station.with("gap 60;artist 0;most 1;", "songs 300;talk 3300;");
        Station.songs(x, 300);
        Check.due("first", x.lay(0), 1);
        Check.due("sixty minutes later", x.lay(0), 1);
        Check.rules(x, "gap 61;artist 0;most 1;");
        Check.due("less than 61 minutes later", x.lay(0), 0);
        Check.due("two hours later", x.lay(0), 1);
        SongHour y = Station.with("gap 5;artist 0;", "songs 600;talk 3000;");
        Station.songs(y, 300);
        Check.due("in the row, five minutes later", y.lay(0), 1);
        Station.duePlays("twice", y, 0, 0, 0);
        SongHour z = Station.with("gap 6;artist 0;", "songs 600;talk 3000;");
        Station.songs(z, 300);
        Check.due("in the row, less than six minutes later", z.lay(0), 0);
        SongHour w = Station.with("gap 61;artist 0;", "songs 200;talk 3340;songs 60;");
        Station.songs(w, 200, 60);
        w.lay(0);
        Check.clock(w, 0, "songs 260;talk 3340;");
        Check.due("free only behind another of the row", w.lay(0), 0);
        Check.rules(w, "gap 57;artist 0;slack 0;");
        Check.due("song 1 began a minute ago", w.lay(0), 1);
    }

    private static void artistKeepsArtistsApart() {
        SongHour x = Station.with("gap 0;artist 60;most 1;", "songs 300;talk 3300;");
        x.song(300, 7, 0, 0, false);
        x.lay(0);
        Check.due("sixty minutes later", x.lay(0), 1);
        Check.rules(x, "gap 0;artist 61;most 1;");
        Check.due("less than 61 minutes later", x.lay(0), 0);
        x.song(300, 8, 0, 0, false);
        x.lay(0);
        Check.rules(x, "gap 0;artist 121;most 1;");
        x.lay(0);
        Station.duePlays("another artist", x, 2, 0, 1);
        SongHour y = Station.with("artist 5;", "songs 550;talk 3050;");
        y.song(250, 3, 0, 0, false);
        y.song(300, 3, 0, 0, false);
        Check.due("in the row five minutes apart", y.lay(0), 1);
        Station.duePlays("the longer one first", y, 0, 1, 0);
        SongHour z = Station.with("artist 6;", "songs 550;talk 3050;");
        z.song(250, 3, 0, 0, false);
        z.song(300, 3, 0, 0, false);
        Check.due("in the row too soon", z.lay(0), 0);
        SongHour w = Station.with("", "songs 550;talk 3050;");
        w.song(250, 3, 0, 0, false);
        w.song(300, 4, 0, 0, false);
        Check.due("two artists", w.lay(0), 1);
    }

    private static void keysGoTogether() {
        for (int steps = 0; steps <= 6; steps++) {
            for (int key = 0; key < 12; key++) {
                SongHour x = Station.with("keys " + steps + ";", "songs 500;talk 3100;");
                x.song(200, 0, 3, 0, false);
                x.song(300, 1, key, 0, false);
                int way = Math.abs(3 - key);
                boolean isNear = Math.min(way, 12 - way) <= steps;
                Check.due("keys 3 and " + key + " within " + steps, x.lay(0), isNear ? 1 : 0);
            }
        }
        SongHour y = Station.with("keys 1;", "songs 600;talk 3000;");
        y.song(200, 0, 0, 0, false);
        y.song(201, 1, 2, 0, false);
        y.song(199, 2, 1, 0, false);
        Check.due("one between", y.lay(0), 1);
        Station.duePlays("one between", y, 0, 0, 2, 1);
    }

    private static void keysGoWithTheSongAhead() {
        SongHour x = Station.with("keys 2;slack 10;", "songs 300;songs 400;talk 2900;");
        x.song(300, 0, 0, 0, false);
        x.song(400, 1, 3, 0, false);
        Check.due("the song ahead ended just then", x.lay(0), 1);
        SongHour y = Station.with("keys 2;slack 10;", "songs 301;songs 400;talk 2899;");
        y.song(300, 0, 0, 0, false);
        y.song(400, 1, 3, 0, false);
        Check.due("it ended a second ahead", y.lay(0), 2);
        SongHour z = Station.with("keys 2;slack 10;", "songs 300;talk 1;songs 400;talk 2899;");
        z.song(300, 0, 0, 0, false);
        z.song(400, 1, 3, 0, false);
        Check.due("talk between", z.lay(0), 2);
        SongHour w = Station.with("keys 0;", "talk 3000;songs 600;");
        w.song(600, 0, 5, 0, false);
        w.song(500, 1, 6, 0, false);
        w.song(500, 2, 5, 0, false);
        w.lay(0);
        Check.clock(w, 0, "songs 500;talk 3100;");
        w.lay(0);
        Station.duePlays("over the hour's end", w, 0, 0, 2);
    }

    private static void moodAndNew() {
        SongHour x = Station.with("", "songs 500 mood 2;talk 3100;");
        x.song(500, 0, 0, 1, false);
        x.song(200, 1, 0, 2, false);
        x.song(280, 2, 0, 2, false);
        x.song(300, 3, 0, 3, false);
        Check.due("mood 2", x.lay(0), 1);
        Station.duePlays("all of mood 2", x, 0, 1, 2);
        SongHour y = Station.with("", "songs 500 mood 0;talk 3100;");
        y.song(500, 0, 0, 1, false);
        Check.due("mood 0 is told", y.lay(0), 0);
        int[][] want = {{1, 2}, {1, 2}, {0, 1}, {}};
        for (int fresh = 0; fresh <= 3; fresh++) {
            SongHour z = Station.with("", "songs 500 new " + fresh + ";talk 3100;");
            z.song(200, 0, 0, 0, true);
            z.song(290, 1, 0, 0, true);
            z.song(210, 2, 0, 0, false);
            z.lay(0);
            Station.duePlays("new " + fresh, z, 0, want[fresh]);
        }
        SongHour w = Station.with(FREE, "songs 400 mood 1 new 4;songs 400 mood 1;talk 2800;");
        w.song(100, 0, 0, 1, true);
        w.song(400, 0, 0, 1, false);
        w.song(400, 0, 0, 0, true);
        w.lay(0);
        Station.duePlays("four new ones, then none needed", w, 0, 0, 0, 0, 0, 0, 0, 0, 0);
        SongHour v = Station.with(FREE + "most 3;", "songs 400 new 4;talk 3200;");
        v.song(100, 0, 0, 1, true);
        Check.due("four new ones of three at most", v.lay(0), 0);
    }

    private static void heatDecides() {
        SongHour x = Station.with("most 1;", "songs 300;talk 3300;");
        Station.songs(x, 300, 300, 300, 299);
        x.vote(1, 3);
        x.vote(2, 4);
        x.vote(3, 9);
        x.lay(0);
        Station.duePlays("the warmest of the longest", x, 0, 2);
        x.ask(0);
        x.lay(0);
        Station.duePlays("an ask is warmer than a vote", x, 1, 0);
        SongHour y = Station.with("", "songs 600;talk 3000;");
        Station.songs(y, 300, 300, 300, 600, 200, 200, 200);
        y.vote(0, 5);
        y.vote(2, 5);
        y.vote(3, 9);
        y.vote(4, 5);
        y.vote(5, 5);
        y.vote(6, 1);
        y.lay(0);
        Station.duePlays("together: 5 + 5 + 1 is more than 9 and 5 + 5", y, 0, 4, 5, 6);
        SongHour z = Station.with(FREE, "songs 300;talk 3300;");
        Station.songs(z, 300, 100);
        z.vote(0, 8);
        z.vote(1, 3);
        z.lay(0);
        Station.duePlays("a song counts as often as it comes", z, 0, 1, 1, 1);
    }

    private static void heatIsThatOfTheHoursBeginning() {
        SongHour x = Station.with(FREE + "most 1;", "songs 300;talk 10;songs 300;talk 2990;");
        Station.songs(x, 300, 300);
        x.vote(0, 9);
        x.ask(1);
        Check.due("laid", x.lay(0), 2);
        Station.duePlays("the ask that is done warms to the hour's end", x, 0, 1, 1);
        Check.due("it is done", x.told(1, 4), 1);
        x.lay(0);
        Station.duePlays("and no more then", x, 2, 0, 0);
    }

    private static void numbersDecide() {
        SongHour x = Station.with("", "songs 600;talk 3000;");
        Station.songs(x, 200, 300, 300, 200, 200, 300, 600);
        x.lay(0);
        Station.duePlays("0 3 4 is ahead of 1 2 and of 6", x, 0, 0, 3, 4);
        SongHour y = Station.with("", "songs 600;talk 3000;");
        Station.songs(y, 400, 300, 300, 200, 600);
        y.lay(0);
        Station.duePlays("0 3 is ahead of 1 2, 3 0 and 4", y, 0, 0, 3);
        SongHour z = Station.with("", "songs 600;talk 3000;");
        Station.songs(z, 600, 300, 300);
        z.lay(0);
        Station.duePlays("0 is ahead of 1 2", z, 0, 0);
        SongHour w = Station.with(FREE + "slack 0;", "songs 400;talk 3200;");
        Station.songs(w, 150, 100, 50);
        w.lay(0);
        Station.duePlays("0 0 1 is ahead of 0 0 2 2 and 1 1 1 1", w, 0, 0, 0, 1);
    }

    private static void asksAreDone() {
        SongHour x = Station.with(FREE + "slack 0;most 2;", "songs 400;talk 3200;");
        Station.songs(x, 200, 200);
        for (int i = 0; i < 3; i++) {
            x.ask(1);
        }
        x.vote(1, 4);
        x.lay(0);
        Station.duePlays("asked for", x, 0, 1, 1);
        Check.due("one for each of the two", x.told(1, 3), 1);
        Check.due("done", x.told(1, 4), 2);
        Check.due("heat", x.told(1, 0), 19);
        Check.due("all open", x.count(5), 1);
        x.lay(0);
        Check.due("none open", x.told(1, 3), 0);
        Check.due("three done", x.told(1, 4), 3);
        x.lay(0);
        Check.due("no more done than asked", x.told(1, 4), 3);
        Check.due("heat of votes alone", x.told(1, 0), 4);
        Check.due("another ask", x.ask(1), 1);
        Check.due("of the other song none", x.told(0, 4), 0);
    }

    private static void playsAreTold() {
        SongHour x = Station.with(FREE + "slack 0;most 2;", "talk 100;songs 500;talk 1000;songs 2000;");
        Station.songs(x, 200, 300);
        Check.dueThrow("none yet", () -> x.play(0, 0), Check.ELEMENT);
        Check.due("told(0, 1)", x.told(0, 1), 0);
        Check.due("told(0, 2)", x.told(0, 2), -1);
        x.lay(0);
        x.lay(0);
        int[][] want = {{0, 100, 0, 1}, {1, 300, 0, 1}, {0, 3700, 1, 1}, {1, 3900, 1, 1}};
        for (int p = 0; p < want.length; p++) {
            for (int what = 0; what < 4; what++) {
                Check.due("play(" + p + ", " + what + ")", x.play(p, what), want[p][what]);
            }
        }
        Check.dueThrow("play(4, 0)", () -> x.play(4, 0), Check.ELEMENT);
        Check.dueThrow("play(-1, 0)", () -> x.play(-1, 0), Check.ELEMENT);
        Check.dueThrow("play(0, 4)", () -> x.play(0, 4), Check.ELEMENT);
        Check.dueThrow("play(0, -1)", () -> x.play(0, -1), Check.ELEMENT);
        Check.dueThrow("play(2147483647, 0)", () -> x.play(Integer.MAX_VALUE, 0), Check.ELEMENT);
        Check.due("told(1, 1)", x.told(1, 1), 2);
        Check.due("told(1, 2)", x.told(1, 2), 3900);
        Check.due("told(0, 5)", x.told(0, 5), -2);
        Check.due("told(0, -1)", x.told(0, -1), -2);
        Check.due("told(2, 0)", x.told(2, 0), -2);
        Check.due("told(-1, 0)", x.told(-1, 0), -2);
        SongHour y = Station.with(FREE + "slack 0;", "songs 100;talk 3000;songs 500;");
        Station.songs(y, 100, 500);
        y.lay(0);
        Check.due("item 0", y.play(0, 3), 0);
        Check.due("item 2", y.play(1, 3), 2);
    }

    private static void whatIsLeftIsKept() {
        SongHour x = Station.with("", "talk 100;songs 520;songs 480;talk 2500;");
        Station.songs(x, 500);
        Check.dueThrow("no hour yet", () -> x.left(0, 0), Check.ELEMENT);
        x.lay(0);
        Check.clock(x, 0, "talk 3600;");
        x.lay(0);
        int[] want = {0, 20, 480, 0};
        for (int i = 0; i < 4; i++) {
            Check.due("left(0, " + i + ")", x.left(0, i), want[i]);
        }
        Check.dueThrow("left(0, 4)", () -> x.left(0, 4), Check.ELEMENT);
        Check.dueThrow("left(0, -1)", () -> x.left(0, -1), Check.ELEMENT);
        Check.dueThrow("left(-1, 0)", () -> x.left(-1, 0), Check.ELEMENT);
        Check.due("left(1, 0)", x.left(1, 0), 0);
        Check.dueThrow("an hour has its own clock's items", () -> x.left(1, 1), Check.ELEMENT);
        Check.dueThrow("left(2, 0)", () -> x.left(2, 0), Check.ELEMENT);
        Check.dueThrow("left(-2147483648, 0)", () -> x.left(Integer.MIN_VALUE, 0), Check.ELEMENT);
        Check.dueThrow("left(0, 2147483647)", () -> x.left(0, Integer.MAX_VALUE), Check.ELEMENT);
    }

    private static void atFindsPlays() {
        SongHour x = Station.with("slack 20;", "talk 100;songs 520;talk 2980;");
        Station.songs(x, 200, 300);
        Check.due("none yet", x.at(100), -1);
        x.lay(0);
        int[][] want = {{99, -1}, {100, 0}, {299, 0}, {300, 1}, {599, 1}, {600, -1}, {-1, -1},
            {Integer.MAX_VALUE, -1}, {Integer.MIN_VALUE, -1}};
        for (int[] pair : want) {
            Check.due("at(" + pair[0] + ")", x.at(pair[0]), pair[1]);
        }
    }

    private static void rightsCountSeconds() {
        SongHour x = Station.with("gap 0;artist 0;slack 0;most 2;", "talk 100;songs 500;talk 3000;");
        x.song(200, 4, 0, 0, false);
        x.song(300, 5, 0, 0, false);
        x.lay(0);
        x.lay(0);
        int[][] want = {{4, 0, 3600, 200}, {5, 0, 3600, 300}, {4, 0, 7200, 400}, {4, 150, 250, 100},
            {4, 0, 101, 1}, {4, 0, 100, 0}, {4, 299, 400, 1}, {4, 300, 3700, 0}, {5, 300, 3901, 301},
            {4, 250, 3750, 100}, {6, 0, 7200, 0}, {4, 200, 200, 0}, {4, 200, 199, -1},
            {12, 0, 1, -1}, {-1, 0, 1, -1}, {4, Integer.MIN_VALUE, Integer.MAX_VALUE, 400},
            {4, Integer.MIN_VALUE, Integer.MIN_VALUE + 5, 0}, {4, Integer.MIN_VALUE, 150, 50},
            {4, Integer.MAX_VALUE, Integer.MAX_VALUE, 0}, {4, 3800, Integer.MAX_VALUE, 100},
            {4, Integer.MAX_VALUE, Integer.MIN_VALUE, -1}, {Integer.MIN_VALUE, 0, 0, -1}};
        for (int[] w : want) {
            Check.due("rights(" + w[0] + ", " + w[1] + ", " + w[2] + ")", x.rights(w[0], w[1], w[2]), w[3]);
        }
        SongHour y = Station.with("artist 60;slack 0;", "songs 200;songs 300;songs 3100;");
        y.song(200, 0, 0, 0, false);
        y.song(300, 11, 0, 0, false);
        y.song(300, 0, 0, 0, false);
        y.vote(2, 9);
        y.lay(0);
        Station.duePlays("artist 0 is kept apart too", y, 0, 0, 1);
        Check.due("rights of artist 0", y.rights(0, 0, 3600), 200);
        Check.due("rights of artist 11", y.rights(11, 0, 3600), 300);
    }

    private static void countsAreKept() {
        SongHour x = Station.with("slack 20;", "talk 100;songs 520;songs 480;talk 2500;");
        Station.songs(x, 200, 300);
        x.ask(0);
        x.ask(1);
        x.ask(1);
        x.feed(0, 0, 0, 0, 0);
        x.lay(0);
        x.lay(0);
        int[] want = {2, 2, 2, 3, 20 + 480 + 520 + 480, 1, 20};
        for (int what = 0; what < want.length; what++) {
            Check.due("count(" + what + ")", x.count(what), want[what]);
        }
        Check.due("count(7)", x.count(7), -1);
        Check.due("count(-1)", x.count(-1), -1);
        Check.due("count(-2147483648)", x.count(Integer.MIN_VALUE), -1);
    }

    /** No row fits and none can be seen not to: as dear as it gets, and it must still end soon. */
    private static void aDearHourEnds() {
        SongHour x = Station.with(FREE + "slack 0;", "songs 801;songs 803;songs 805;songs 807;talk 384;");
        for (int s = 0; s < 24; s++) {
            x.song(100 + 10 * s, s % 12, s % 12, 0, s % 2 == 0);
        }
        for (int h = 0; h < 168; h++) {
            Check.due("dear hour " + h, x.lay(0), 0);
        }
    }
}
