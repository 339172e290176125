import java.util.ArrayList;
import java.util.List;

/**
 * The document again, written as plainly as it can be and without regard to speed: every row is
 * made whole and then looked at. The random runs compare SongHour with it.
 */
final class PlainModel {
    static final class Fault extends Exception {
        private static final long serialVersionUID = 1L;
        final int kind;
        final int place;

        Fault(int kind, int place) {
            this.kind = kind;
            this.place = place;
        }
    }

    record Token(String body, int place) {
        boolean isNumber() {
            return body.matches("[0-9]{1,4}");
        }
    }

    record Item(boolean songs, int seconds, int mood, int fresh) { }

    record Song(int seconds, int artist, int key, int mood, boolean fresh) { }

    record Play(int song, int second, int hour, int item) { }

    private static final List<String> NAMES = List.of("gap", "artist", "keys", "slack", "most");
    private static final int[] USUAL = {180, 60, 6, 60, 4};
    private static final int[] LOW = {0, 0, 0, 0, 1};
    private static final int[] HIGH = {9999, 9999, 6, 900, 4};

    private String tape = "";
    private int faultKind = 0;
    private int[] rule = USUAL.clone();
    private final List<List<Item>> clocks = new ArrayList<>();
    private final List<Song> songs = new ArrayList<>();
    private final List<List<Integer>> votes = new ArrayList<>();
    private final int[] open = new int[24];
    private final int[] done = new int[24];
    private final List<Play> plays = new ArrayList<>();
    private final List<int[]> left = new ArrayList<>();
    private int empty = 0;
    private int allLeft = 0;

    PlainModel() {
        for (int k = 0; k < 6; k++) {
            clocks.add(List.of());
        }
    }

    int feed(int... five) {
        if (tape.length() + 20 > 260) {
            return -1;
        }
        StringBuilder more = new StringBuilder();
        for (int number : five) {
            for (int i = 3; i >= 0; i--) {
                more.append((char) (number >> 8 * i & 255));
            }
        }
        tape += more;
        return tape.length();
    }

    boolean end(int n) {
        if (n < 0 || n > tape.length()) {
            return false;
        }
        tape = tape.substring(0, n);
        return true;
    }

    /** The tokens that begin ahead of the limit; last a token "" for the end (or the limit). */
    private static List<Token> tokens(String text, int limit) {
        List<Token> all = new ArrayList<>();
        int i = 0;
        while (i < text.length() && i < limit) {
            if (" \n".indexOf(text.charAt(i)) >= 0) {
                i++;
                continue;
            }
            int j = i;
            while (j < text.length() && ("" + text.charAt(j)).matches("[a-z0-9]")) {
                j++;
            }
            j = Math.max(j, i + 1);
            all.add(new Token(text.substring(i, j), i));
            i = j;
        }
        all.add(text.length() > limit ? new Token("?", limit) : new Token("", text.length()));
        return all;
    }

    private static int number(Token token, int low, int high) throws Fault {
        if (!token.isNumber()) {
            throw new Fault(1, token.place());
        }
        int n = Integer.parseInt(token.body());
        if (n < low || n > high) {
            throw new Fault(2, token.place());
        }
        return n;
    }

    private static void semicolon(Token token) throws Fault {
        if (!token.body().equals(";")) {
            throw new Fault(1, token.place());
        }
    }

    private static int readRules(String text, int[] into) throws Fault {
        List<Token> t = tokens(text, 120);
        List<Integer> seen = new ArrayList<>();
        int i = 0;
        while (!t.get(i).body().isEmpty()) {
            int k = NAMES.indexOf(t.get(i).body());
            if (k < 0) {
                throw new Fault(1, t.get(i).place());
            }
            if (seen.contains(k)) {
                throw new Fault(3, t.get(i).place());
            }
            seen.add(k);
            into[k] = number(t.get(i + 1), LOW[k], HIGH[k]);
            semicolon(t.get(i + 2));
            i += 3;
        }
        return seen.size();
    }

    private static List<Item> readClock(String text) throws Fault {
        List<Token> t = tokens(text, 240);
        List<Item> items = new ArrayList<>();
        int total = 0;
        int i = 0;
        while (!t.get(i).body().isEmpty()) {
            Token word = t.get(i++);
            if (!word.body().equals("talk") && !word.body().equals("songs")) {
                throw new Fault(1, word.place());
            }
            if (items.size() == 8) {
                throw new Fault(3, word.place());
            }
            boolean isSongs = word.body().equals("songs");
            Token length = t.get(i++);
            int n = number(length, 1, 3600);
            total += n;
            if (total > 3600) {
                throw new Fault(3, length.place());
            }
            int mood = -1;
            int fresh = 0;
            if (isSongs && t.get(i).body().equals("mood")) {
                mood = number(t.get(i + 1), 0, 3);
                i += 2;
            }
            if (isSongs && t.get(i).body().equals("new")) {
                fresh = number(t.get(i + 1), 0, 4);
                i += 2;
            }
            semicolon(t.get(i++));
            items.add(new Item(isSongs, n, mood, fresh));
        }
        if (total < 3600) {
            throw new Fault(4, text.length());
        }
        return items;
    }

    int rules() {
        int[] into = USUAL.clone();
        String text = tape;
        tape = "";
        try {
            int told = readRules(text, into);
            rule = into;
            faultKind = 0;
            return told;
        } catch (Fault f) {
            faultKind = f.kind;
            return -1 - f.place;
        }
    }

    long clock(int k) {
        if (k < 0 || k > 5) {
            return Check.INDEX;
        }
        String text = tape;
        tape = "";
        try {
            clocks.set(k, readClock(text));
            faultKind = 0;
            return clocks.get(k).size();
        } catch (Fault f) {
            faultKind = f.kind;
            return -1 - f.place;
        }
    }

    int fault() {
        return faultKind;
    }

    int rule(int k) {
        return k < 0 || k > 4 ? -1 : rule[k];
    }

    int song(int seconds, int artist, int key, int mood, boolean fresh) {
        if (songs.size() == 24 || seconds < 30 || seconds > 900 || artist < 0 || artist > 11
                || key < 0 || key > 11 || mood < 0 || mood > 3) {
            return -1;
        }
        songs.add(new Song(seconds, artist, key, mood, fresh));
        votes.add(new ArrayList<>());
        return songs.size() - 1;
    }

    private boolean noSong(int s) {
        return s < 0 || s >= songs.size();
    }

    private int heat(int s) {
        List<Integer> v = votes.get(s);
        int sum = 15 * open[s];
        for (int i = Math.max(0, v.size() - 10); i < v.size(); i++) {
            sum += v.get(i);
        }
        return sum;
    }

    int vote(int s, int mark) {
        if (noSong(s) || mark < 0 || mark > 9) {
            return -1;
        }
        votes.get(s).add(mark);
        return heat(s);
    }

    int ask(int s) {
        if (noSong(s) || open[s] == 20) {
            return -1;
        }
        return ++open[s];
    }

    long lay(int k) {
        if (k < 0 || k > 5) {
            return Check.INDEX;
        }
        List<Item> items = clocks.get(k);
        long stretches = items.stream().filter(Item::songs).count();
        if (items.isEmpty() || left.size() == 168 || plays.size() + 4 * stretches > 300) {
            return -1;
        }
        int[] heats = new int[songs.size()];
        for (int s = 0; s < heats.length; s++) {
            heats[s] = heat(s);
        }
        int[] itemLeft = new int[items.size()];
        int second = 3600 * left.size();
        int filled = 0;
        for (int i = 0; i < items.size(); i++) {
            if (items.get(i).songs()) {
                itemLeft[i] = fill(items.get(i), i, second, heats);
                filled += plays.isEmpty() || plays.get(plays.size() - 1).item() != i
                        || plays.get(plays.size() - 1).hour() != left.size() ? 0 : 1;
            }
            second += items.get(i).seconds();
        }
        left.add(itemLeft);
        return filled;
    }

    private int fill(Item item, int i, int second, int[] heats) {
        List<int[]> best = new ArrayList<>();
        rows(new int[0], item, second, heats, best);
        int rest = item.seconds();
        if (best.isEmpty()) {
            empty++;
        } else {
            int begin = second;
            for (int s : best.get(0)) {
                plays.add(new Play(s, begin, left.size(), i));
                begin += songs.get(s).seconds();
                if (open[s] > 0) {
                    open[s]--;
                    done[s]++;
                }
            }
            rest = second + item.seconds() - begin;
        }
        allLeft += rest;
        return rest;
    }

    private int length(int[] row) {
        int sum = 0;
        for (int s : row) {
            sum += songs.get(s).seconds();
        }
        return sum;
    }

    private void rows(int[] row, Item item, int second, int[] heats, List<int[]> best) {
        if (length(row) > item.seconds()) {
            return;
        }
        if (row.length > 0 && item.seconds() - length(row) <= rule[3] && isAllowed(row, item, second)
                && (best.isEmpty() || isBefore(row, best.get(0), heats))) {
            best.clear();
            best.add(row);
        }
        if (row.length < rule[4]) {
            for (int s = songs.size() - 1; s >= 0; s--) {
                int[] longer = java.util.Arrays.copyOf(row, row.length + 1);
                longer[row.length] = s;
                rows(longer, item, second, heats, best);
            }
        }
    }

    private boolean isBefore(int[] row, int[] other, int[] heats) {
        if (length(row) != length(other)) {
            return length(row) > length(other);
        }
        int warm = 0;
        for (int s : row) {
            warm += heats[s];
        }
        for (int s : other) {
            warm -= heats[s];
        }
        return warm != 0 ? warm > 0 : java.util.Arrays.compare(row, other) < 0;
    }

    private boolean isAllowed(int[] row, Item item, int second) {
        List<Play> all = new ArrayList<>(plays);
        int begin = second;
        int fresh = 0;
        for (int s : row) {
            Song song = songs.get(s);
            for (Play p : all) {
                if (p.song() == s && begin - p.second() < 60 * rule[0]) {
                    return false;
                }
                if (songs.get(p.song()).artist() == song.artist() && begin - p.second() < 60 * rule[1]) {
                    return false;
                }
            }
            if (!all.isEmpty()) {
                Play last = all.get(all.size() - 1);
                Song ahead = songs.get(last.song());
                int way = Math.floorMod(ahead.key() - song.key(), 12);
                if (last.second() + ahead.seconds() == begin && Math.min(way, 12 - way) > rule[2]) {
                    return false;
                }
            }
            if (item.mood() != -1 && song.mood() != item.mood()) {
                return false;
            }
            fresh += song.fresh() ? 1 : 0;
            all.add(new Play(s, begin, 0, 0));
            begin += song.seconds();
        }
        return fresh >= item.fresh();
    }

    int told(int s, int what) {
        if (noSong(s) || what < 0 || what > 4) {
            return -2;
        }
        int times = 0;
        int last = -1;
        for (Play p : plays) {
            if (p.song() == s) {
                times++;
                last = p.second();
            }
        }
        return new int[] {heat(s), times, last, open[s], done[s]}[what];
    }

    long play(int p, int what) {
        if (p < 0 || p >= plays.size() || what < 0 || what > 3) {
            return Check.ELEMENT;
        }
        Play x = plays.get(p);
        return new int[] {x.song(), x.second(), x.hour(), x.item()}[what];
    }

    long left(int h, int i) {
        if (h < 0 || h >= left.size() || i < 0 || i >= left.get(h).length) {
            return Check.ELEMENT;
        }
        return left.get(h)[i];
    }

    int at(int second) {
        for (int p = 0; p < plays.size(); p++) {
            Play x = plays.get(p);
            if (x.second() <= second && second < x.second() + songs.get(x.song()).seconds()) {
                return p;
            }
        }
        return -1;
    }

    int rights(int artist, int a, int b) {
        if (artist < 0 || artist > 11 || b < a) {
            return -1;
        }
        int sum = 0;
        for (Play p : plays) {
            Song song = songs.get(p.song());
            for (int t = p.second(); t < p.second() + song.seconds() && song.artist() == artist; t++) {
                sum += t >= a && t < b ? 1 : 0;
            }
        }
        return sum;
    }

    long items(int k) {
        return k < 0 || k > 5 ? Check.INDEX : clocks.get(k).size();
    }

    int count(int what) {
        int asks = java.util.Arrays.stream(open).sum();
        int[] all = {left.size(), songs.size(), plays.size(), empty, allLeft, asks, tape.length()};
        return what < 0 || what > 6 ? -1 : all[what];
    }
}
