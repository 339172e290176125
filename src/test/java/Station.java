/** Stations made ready for a test, and the look at what they played. */
final class Station {
    private Station() { }

    /** A new object with these rules and this text as clock 0. */
    static SongHour with(String rules, String clock) {
        SongHour x = new SongHour();
        Check.due("rules '" + rules + "' are fine", Check.rules(x, rules) >= 0, true);
        Check.due("clock '" + clock + "' is fine", Check.clock(x, 0, clock) > 0, true);
        return x;
    }

    static void songs(SongHour x, int... seconds) {
        for (int n : seconds) {
            x.song(n, x.count(1) % 12, 0, 0, false);
        }
    }

    /** The plays from a number on are of these songs, and there are no more. */
    static void duePlays(String name, SongHour x, int from, int... want) {
        Check.due(name + ": how many plays", x.count(2), from + want.length);
        for (int i = 0; i < want.length && from + i < x.count(2); i++) {
            Check.due(name + ": song of play " + (from + i), x.play(from + i, 0), want[i]);
        }
    }
}
