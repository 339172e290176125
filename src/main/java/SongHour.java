import java.util.Arrays;
import java.util.NoSuchElementException;

/** A station's music laid hour by hour, and each second counted to whom it belongs. */
public final class SongHour {
    public static final int NONE = -1;

    private static final int NOT_TOLD = -2;
    private static final int CLOCKS = 6;
    private static final int ITEMS = 8;
    private static final int HOURS = 168;
    private static final int HOUR_SECONDS = 3600;
    private static final int SONGS = 24;
    private static final int ARTISTS = 12;
    private static final int KEYS = 12;
    private static final int MOODS = 4;
    private static final int SHORTEST = 30;
    private static final int LONGEST = 900;
    private static final int ROW = 4;
    private static final int PLAYS = 300;

    private final Text text;
    private final Rulebook rulebook;
    private final Clock[] clocks;
    private final Clock draft;
    private final Songs songs;
    private final Log log;
    private final RowSearch search;

    public SongHour() {
        text = new Text();
        rulebook = new Rulebook();
        clocks = new Clock[CLOCKS];
        for (int k = 0; k < CLOCKS; k++) {
            clocks[k] = new Clock();
        }
        draft = new Clock();
        songs = new Songs();
        log = new Log();
        search = new RowSearch();
    }

    public int feed(int a, int b, int c, int d, int e) {
        if (!text.hasRoomForFive()) {
            return NONE;
        }
        text.append(a);
        text.append(b);
        text.append(c);
        text.append(d);
        text.append(e);
        return text.size;
    }

    public boolean end(int n) {
        if (n < 0 || n > text.size) {
            return false;
        }
        text.size = n;
        return true;
    }

    public int rules() {
        boolean isRead = rulebook.read(text);
        text.size = 0;
        return isRead ? rulebook.howMany : -1 - text.faultPlace;
    }

    public int clock(int k) throws IndexOutOfBoundsException {
        if (!isClock(k)) {
            throw new IndexOutOfBoundsException("no such clock");
        }
        boolean isRead = draft.read(text);
        text.size = 0;
        if (!isRead) {
            return -1 - text.faultPlace;
        }
        clocks[k].become(draft);
        return draft.size;
    }

    public int fault() {
        return text.faultKind;
    }

    public int rule(int k) {
        return k >= 0 && k < Rulebook.SIZE ? rulebook.now[k] : NONE;
    }

    public int song(int seconds, int artist, int key, int mood, boolean isNew) {
        boolean isAsTold = isWithin(seconds, SHORTEST, LONGEST)
                && isWithin(artist, 0, ARTISTS - 1)
                && isWithin(key, 0, KEYS - 1)
                && isWithin(mood, 0, MOODS - 1);
        if (!isAsTold || songs.size >= SONGS) {
            return NONE;
        }
        return songs.add(seconds, artist, key, mood, isNew ? 1 : 0);
    }

    public int vote(int s, int mark) {
        if (!songs.has(s) || !isWithin(mark, 0, Songs.HIGHEST_VOTE)) {
            return NONE;
        }
        songs.takeVote(s, mark);
        return songs.heat(s);
    }

    public int ask(int s) {
        if (!songs.has(s) || songs.asksOpen[s] >= Songs.ASKS) {
            return NONE;
        }
        songs.asksOpen[s]++;
        return songs.asksOpen[s];
    }

    public int lay(int k) throws IndexOutOfBoundsException {
        if (!isClock(k)) {
            throw new IndexOutOfBoundsException("no such clock");
        }
        Clock clock = clocks[k];
        if (clock.size == 0 || !log.hasRoomFor(clock.stretches)) {
            return NONE;
        }
        search.prepare(songs, rulebook);
        int filled = 0;
        int second = log.hours * HOUR_SECONDS;
        for (int i = 0; i < clock.size; i++) {
            if (clock.isStretch(i) && fillStretch(clock, i, second)) {
                filled++;
            }
            second += clock.seconds[i];
        }
        log.closeHour(clock.size);
        return filled;
    }

    public int told(int s, int what) {
        if (!songs.has(s)) {
            return NOT_TOLD;
        }
        switch (what) {
            case 0: return songs.heat(s);
            case 1: return songs.played[s];
            case 2: return songs.began[s];
            case 3: return songs.asksOpen[s];
            case 4: return songs.asksDone[s];
            default: return NOT_TOLD;
        }
    }

    public int play(int p, int what) throws NoSuchElementException {
        if (p < 0 || p >= log.plays || what < 0 || what > 3) {
            throw new NoSuchElementException("no such play");
        }
        switch (what) {
            case 0: return log.playSong[p];
            case 1: return log.playBegan[p];
            case 2: return log.playHour[p];
            default: return log.playItem[p];
        }
    }

    public int left(int h, int i) throws NoSuchElementException {
        if (h < 0 || h >= log.hours || i < 0 || i >= log.hourItems[h]) {
            throw new NoSuchElementException("no such item");
        }
        return log.itemLeft[h * ITEMS + i];
    }

    public int at(int second) {
        for (int p = 0; p < log.plays; p++) {
            if (second >= log.playBegan[p] && second < endOfPlay(p)) {
                return p;
            }
        }
        return NONE;
    }

    public int rights(int artist, int a, int b) {
        if (!isWithin(artist, 0, ARTISTS - 1) || b < a) {
            return NONE;
        }
        int sum = 0;
        for (int p = 0; p < log.plays; p++) {
            if (songs.artist[log.playSong[p]] == artist) {
                sum += secondsWithin(p, a, b);
            }
        }
        return sum;
    }

    public int items(int k) throws IndexOutOfBoundsException {
        if (!isClock(k)) {
            throw new IndexOutOfBoundsException("no such clock");
        }
        return clocks[k].size;
    }

    public int count(int what) {
        switch (what) {
            case 0: return log.hours;
            case 1: return songs.size;
            case 2: return log.plays;
            case 3: return log.emptyStretches;
            case 4: return log.secondsLeft;
            case 5: return songs.allAsksOpen();
            case 6: return text.size;
            default: return NONE;
        }
    }

    private static boolean isClock(int k) {
        return isWithin(k, 0, CLOCKS - 1);
    }

    private static boolean isWithin(int number, int least, int most) {
        return number >= least && number <= most;
    }

    private boolean fillStretch(Clock clock, int item, int second) {
        int length = clock.seconds[item];
        search.aim(songs, second, length, clock.mood[item], clock.wantedNew[item]);
        search.run(songs, second, keyAhead(second));
        int next = second;
        for (int i = 0; i < search.bestSize; i++) {
            int s = search.best[i];
            songs.begin(s, next);
            log.addPlay(s, next, item);
            next += songs.seconds[s];
        }
        log.noteStretch(item, second + length - next, search.bestSize == 0);
        return search.bestSize > 0;
    }

    /** The key that the first song of a row must go with; NONE behind talk or silence. */
    private int keyAhead(int second) {
        int last = log.plays - 1;
        if (last < 0 || endOfPlay(last) != second) {
            return NONE;
        }
        return songs.key[log.playSong[last]];
    }

    private int endOfPlay(int p) {
        return log.playBegan[p] + songs.seconds[log.playSong[p]];
    }

    private int secondsWithin(int p, int a, int b) {
        int from = Math.max(a, log.playBegan[p]);
        int to = Math.min(b, endOfPlay(p));
        // Compared first: with a far negative b the difference would wrap round.
        return to > from ? to - from : 0;
    }

    /** The tape, read token by token; it keeps the fault of the text that was read last. */
    private static final class Text {
        static final int CAPACITY = 260;
        static final int FED_AT_ONCE = 20;
        static final int DIGITS = 4;

        static final int NO_TOKEN = 0;
        static final int END = 1;
        static final int WORD = 2;
        static final int NUMBER = 3;
        static final int SEMICOLON = 4;

        static final int CANNOT_COME = 1;
        static final int NUMBER_NOT_AS_TOLD = 2;
        static final int TOO_MUCH = 3;
        static final int TOO_FEW_SECONDS = 4;

        final byte[] bytes = new byte[CAPACITY];
        int size;
        int faultKind;
        int faultPlace;
        int token;
        int value;
        private int limit;
        private int from;
        private int to;

        boolean hasRoomForFive() {
            return size <= CAPACITY - FED_AT_ONCE;
        }

        void append(int number) {
            for (int shift = 24; shift >= 0 && size < CAPACITY; shift -= 8) {
                bytes[size] = (byte) (number >>> shift);
                size++;
            }
        }

        void start(int most) {
            limit = most;
            faultKind = 0;
            faultPlace = 0;
            to = 0;
            step();
        }

        void step() {
            int i = to;
            while (i < size && isBlank(bytes[i])) {
                i++;
            }
            if (i < size && i < limit) {
                readToken(i);
                return;
            }
            // A text beyond its limit has no end that could come: the limit itself is the fault.
            token = size > limit ? NO_TOKEN : END;
            from = Math.min(size, limit);
            to = from;
        }

        private void readToken(int start) {
            from = start;
            if (bytes[start] == ';') {
                to = start + 1;
                token = SEMICOLON;
                return;
            }
            int letters = 0;
            int digits = 0;
            int number = 0;
            int i = start;
            while (i < size && (isLetter(bytes[i]) || isDigit(bytes[i]))) {
                if (isLetter(bytes[i])) {
                    letters++;
                } else {
                    digits++;
                    number = number * 10 + (bytes[i] - '0');
                }
                i++;
            }
            to = i;
            value = number;
            token = kindOf(letters, digits);
        }

        private static int kindOf(int letters, int digits) {
            if (letters > 0 && digits == 0) {
                return WORD;
            }
            return letters == 0 && digits > 0 && digits <= DIGITS ? NUMBER : NO_TOKEN;
        }

        boolean isWord(String word) {
            if (token != WORD || to - from != word.length()) {
                return false;
            }
            for (int i = 0; i < word.length(); i++) {
                if (bytes[from + i] != word.charAt(i)) {
                    return false;
                }
            }
            return true;
        }

        /** Steps to the next token, which must be a number from least to most. */
        boolean stepToNumber(int least, int most) {
            step();
            if (token != NUMBER) {
                return refuse(CANNOT_COME);
            }
            return isWithin(value, least, most) || refuse(NUMBER_NOT_AS_TOLD);
        }

        boolean passSemicolon() {
            if (token != SEMICOLON) {
                return refuse(CANNOT_COME);
            }
            step();
            return true;
        }

        /** Always false, so that a reader can hand the refusal on. */
        boolean refuse(int kind) {
            faultKind = kind;
            faultPlace = from;
            return false;
        }

        private static boolean isBlank(byte b) {
            return b == ' ' || b == '\n';
        }

        private static boolean isLetter(byte b) {
            return b >= 'a' && b <= 'z';
        }

        private static boolean isDigit(byte b) {
            return b >= '0' && b <= '9';
        }
    }

    /** The rules in force, and the text that tells them. */
    private static final class Rulebook {
        static final int SIZE = 5;
        static final int BYTES = 120;

        static final int GAP = 0;
        static final int ARTIST = 1;
        static final int STEPS = 2;
        static final int SLACK = 3;
        static final int MOST = 4;

        private static final int[] USUAL = {180, 60, 6, 60, 4};
        private static final int[] LOWEST = {0, 0, 0, 0, 1};
        private static final int[] HIGHEST = {9999, 9999, 6, 900, 4};

        final int[] now = new int[SIZE];
        private final int[] next = new int[SIZE];
        private final boolean[] isTold = new boolean[SIZE];
        int howMany;

        Rulebook() {
            System.arraycopy(USUAL, 0, now, 0, SIZE);
        }

        boolean read(Text text) {
            startAnew();
            text.start(BYTES);
            // A sixth rule is refused, so there are never more rounds than this.
            for (int round = 0; round <= SIZE && text.token != Text.END; round++) {
                if (!readOne(text)) {
                    return false;
                }
            }
            System.arraycopy(next, 0, now, 0, SIZE);
            return true;
        }

        private void startAnew() {
            System.arraycopy(USUAL, 0, next, 0, SIZE);
            for (int k = 0; k < SIZE; k++) {
                isTold[k] = false;
            }
            howMany = 0;
        }

        private boolean readOne(Text text) {
            int k = named(text);
            if (k == NONE) {
                return text.refuse(Text.CANNOT_COME);
            }
            if (isTold[k]) {
                return text.refuse(Text.TOO_MUCH);
            }
            if (!text.stepToNumber(LOWEST[k], HIGHEST[k])) {
                return false;
            }
            next[k] = text.value;
            isTold[k] = true;
            howMany++;
            text.step();
            return text.passSemicolon();
        }

        private static int named(Text text) {
            if (text.isWord("gap")) {
                return GAP;
            }
            if (text.isWord("artist")) {
                return ARTIST;
            }
            if (text.isWord("keys")) {
                return STEPS;
            }
            if (text.isWord("slack")) {
                return SLACK;
            }
            return text.isWord("most") ? MOST : NONE;
        }
    }

    /** The items of an hour, and the text that tells them. */
    private static final class Clock {
        static final int BYTES = 240;

        int size;
        int stretches;
        final int[] seconds = new int[ITEMS];
        final int[] mood = new int[ITEMS];
        final int[] wantedNew = new int[ITEMS];
        private final boolean[] hasSongs = new boolean[ITEMS];
        private int total;

        boolean isStretch(int i) {
            return hasSongs[i];
        }

        void become(Clock other) {
            size = other.size;
            stretches = other.stretches;
            total = other.total;
            for (int i = 0; i < ITEMS; i++) {
                seconds[i] = other.seconds[i];
                mood[i] = other.mood[i];
                wantedNew[i] = other.wantedNew[i];
                hasSongs[i] = other.hasSongs[i];
            }
        }

        boolean read(Text text) {
            size = 0;
            stretches = 0;
            total = 0;
            text.start(BYTES);
            // A ninth item is refused, so there are never more rounds than this.
            for (int round = 0; round <= ITEMS && text.token != Text.END; round++) {
                if (!readOne(text)) {
                    return false;
                }
            }
            return total == HOUR_SECONDS || text.refuse(Text.TOO_FEW_SECONDS);
        }

        private boolean readOne(Text text) {
            boolean isSongs = text.isWord("songs");
            if (!isSongs && !text.isWord("talk")) {
                return text.refuse(Text.CANNOT_COME);
            }
            if (size >= ITEMS) {
                return text.refuse(Text.TOO_MUCH);
            }
            if (!text.stepToNumber(1, HOUR_SECONDS)) {
                return false;
            }
            if (text.value > HOUR_SECONDS - total) {
                return text.refuse(Text.TOO_MUCH);
            }
            int item = add(isSongs, text.value);
            text.step();
            if (isSongs && !readWishes(text, item)) {
                return false;
            }
            return text.passSemicolon();
        }

        private int add(boolean isSongs, int length) {
            int item = size;
            seconds[item] = length;
            mood[item] = NONE;
            wantedNew[item] = 0;
            hasSongs[item] = isSongs;
            stretches += isSongs ? 1 : 0;
            total += length;
            size++;
            return item;
        }

        private boolean readWishes(Text text, int item) {
            if (text.isWord("mood")) {
                if (!text.stepToNumber(0, MOODS - 1)) {
                    return false;
                }
                mood[item] = text.value;
                text.step();
            }
            if (text.isWord("new")) {
                if (!text.stepToNumber(0, ROW)) {
                    return false;
                }
                wantedNew[item] = text.value;
                text.step();
            }
            return true;
        }
    }

    /** The songs, and what people did about each. */
    private static final class Songs {
        static final int VOTES = 10;
        static final int HIGHEST_VOTE = 9;
        static final int ASKS = 20;
        static final int HEAT_OF_ASK = 15;

        int size;
        final int[] seconds = new int[SONGS];
        final int[] artist = new int[SONGS];
        final int[] key = new int[SONGS];
        final int[] mood = new int[SONGS];
        final int[] newness = new int[SONGS];
        final int[] asksOpen = new int[SONGS];
        final int[] asksDone = new int[SONGS];
        final int[] played = new int[SONGS];
        final int[] began = new int[SONGS];
        final int[] artistBegan = new int[ARTISTS];
        private final int[] voteSum = new int[SONGS];
        private final int[] oldestVote = new int[SONGS];
        private final byte[] votes = new byte[SONGS * VOTES];

        Songs() {
            Arrays.fill(began, NONE);
            Arrays.fill(artistBegan, NONE);
        }

        boolean has(int s) {
            return s >= 0 && s < size;
        }

        int add(int length, int byWhom, int inKey, int inMood, int isNew) {
            int s = size;
            seconds[s] = length;
            artist[s] = byWhom;
            key[s] = inKey;
            mood[s] = inMood;
            newness[s] = isNew;
            size++;
            return s;
        }

        void takeVote(int s, int mark) {
            int place = s * VOTES + oldestVote[s];
            voteSum[s] += mark - votes[place];
            votes[place] = (byte) mark;
            oldestVote[s] = oldestVote[s] + 1 < VOTES ? oldestVote[s] + 1 : 0;
        }

        int heat(int s) {
            return voteSum[s] + HEAT_OF_ASK * asksOpen[s];
        }

        int allAsksOpen() {
            int sum = 0;
            for (int s = 0; s < size; s++) {
                sum += asksOpen[s];
            }
            return sum;
        }

        void begin(int s, int second) {
            played[s]++;
            began[s] = second;
            artistBegan[artist[s]] = second;
            if (asksOpen[s] > 0) {
                asksOpen[s]--;
                asksDone[s]++;
            }
        }
    }

    /** The hours that were laid and their plays. */
    private static final class Log {
        int hours;
        int plays;
        int emptyStretches;
        int secondsLeft;
        final int[] hourItems = new int[HOURS];
        final int[] itemLeft = new int[HOURS * ITEMS];
        final int[] playSong = new int[PLAYS];
        final int[] playBegan = new int[PLAYS];
        final int[] playHour = new int[PLAYS];
        final int[] playItem = new int[PLAYS];

        boolean hasRoomFor(int stretches) {
            return hours < HOURS && plays + ROW * stretches <= PLAYS;
        }

        void addPlay(int s, int second, int item) {
            playSong[plays] = s;
            playBegan[plays] = second;
            playHour[plays] = hours;
            playItem[plays] = item;
            plays++;
        }

        void noteStretch(int item, int left, boolean isEmpty) {
            itemLeft[hours * ITEMS + item] = left;
            secondsLeft += left;
            emptyStretches += isEmpty ? 1 : 0;
        }

        void closeHour(int size) {
            hourItems[hours] = size;
            hours++;
        }
    }

    /**
     * Looks for the best row of songs for a stretch. Rows are tried by their songs' numbers, the
     * lesser first, so that of like rows the first one found is the one to take.
     */
    private static final class RowSearch {
        private static final int MINUTE = 60;

        final int[] best = new int[ROW];
        int bestSize;
        private int bestLeft;
        private int bestHeat;
        private final int[] row = new int[ROW];
        private final int[] heat = new int[SONGS];
        private final int[] songFree = new int[SONGS];
        private final int[] artistFree = new int[ARTISTS];
        private final int[] pool = new int[SONGS];
        private final int[] longestFirst = new int[SONGS];
        private int poolSize;
        private int longest;
        private int hottest;
        private int gap;
        private int artistGap;
        private int steps;
        private int slack;
        private int most;
        private int finish;
        private int wantedNew;

        /** For a whole hour: asks that its stretches fulfil do not cool the later ones. */
        void prepare(Songs songs, Rulebook rulebook) {
            gap = rulebook.now[Rulebook.GAP] * MINUTE;
            artistGap = rulebook.now[Rulebook.ARTIST] * MINUTE;
            steps = rulebook.now[Rulebook.STEPS];
            slack = rulebook.now[Rulebook.SLACK];
            most = Math.min(rulebook.now[Rulebook.MOST], ROW);
            for (int s = 0; s < songs.size; s++) {
                heat[s] = songs.heat(s);
            }
        }

        void aim(Songs songs, int second, int length, int mood, int wanted) {
            finish = second + length;
            wantedNew = wanted;
            bestSize = 0;
            bestLeft = slack;
            bestHeat = NONE;
            for (int s = 0; s < songs.size; s++) {
                songFree[s] = songs.began[s] == NONE ? 0 : songs.began[s] + gap;
            }
            for (int a = 0; a < ARTISTS; a++) {
                artistFree[a] = songs.artistBegan[a] == NONE ? 0 : songs.artistBegan[a] + artistGap;
            }
            gather(songs, mood);
        }

        void run(Songs songs, int second, int key) {
            extend(songs, 0, second, key, 0, 0);
        }

        private void gather(Songs songs, int mood) {
            poolSize = 0;
            longest = 0;
            hottest = 0;
            int newOnes = 0;
            for (int s = 0; s < songs.size; s++) {
                if ((mood == NONE || songs.mood[s] == mood) && isFreeInTime(songs, s)) {
                    pool[poolSize] = s;
                    sortIn(songs, s);
                    poolSize++;
                    longest = Math.max(longest, songs.seconds[s]);
                    hottest = Math.max(hottest, heat[s]);
                    newOnes += songs.newness[s];
                }
            }
            if (wantedNew > 0 && newOnes == 0) {
                poolSize = 0;
            }
        }

        /** A song that can't begin even at the last second that would do is no use to any row. */
        private boolean isFreeInTime(Songs songs, int s) {
            int last = finish - songs.seconds[s];
            return songFree[s] <= last && artistFree[songs.artist[s]] <= last;
        }

        private void sortIn(Songs songs, int s) {
            int i = poolSize;
            while (i > 0 && songs.seconds[longestFirst[i - 1]] < songs.seconds[s]) {
                longestFirst[i] = longestFirst[i - 1];
                i--;
            }
            longestFirst[i] = s;
        }

        private void extend(Songs songs, int depth, int second, int key, int warmth, int fresh) {
            int more = most - depth;
            if (more <= 0 || isHopeless(more, finish - second, warmth, fresh)) {
                return;
            }
            if (more == 1) {
                tryLast(songs, depth, second, key, warmth, fresh);
                return;
            }
            for (int i = 0; i < poolSize; i++) {
                int s = pool[i];
                if (songs.seconds[s] <= finish - second && mayBegin(songs, s, second, key)) {
                    tryNext(songs, depth, s, second, warmth, fresh);
                }
            }
        }

        /** Whether no row that goes on from here can be better than the best one. */
        private boolean isHopeless(int more, int rest, int warmth, int fresh) {
            if (fresh + more < wantedNew) {
                return true;
            }
            int least = Math.max(0, rest - more * longest);
            return least > bestLeft || least == bestLeft && warmth + more * hottest <= bestHeat;
        }

        private void tryNext(Songs songs, int depth, int s, int second, int warmth, int fresh) {
            int artist = songs.artist[s];
            int songWasFree = songFree[s];
            int artistWasFree = artistFree[artist];
            int after = second + songs.seconds[s];
            int warmthThen = warmth + heat[s];
            int freshThen = fresh + songs.newness[s];
            row[depth] = s;
            compare(depth + 1, finish - after, warmthThen, freshThen);
            songFree[s] = second + gap;
            artistFree[artist] = second + artistGap;
            extend(songs, depth + 1, after, songs.key[s], warmthThen, freshThen);
            songFree[s] = songWasFree;
            artistFree[artist] = artistWasFree;
        }

        /** The last song's length is all but settled, so only those of that length are tried. */
        private void tryLast(Songs songs, int depth, int second, int key, int warmth, int fresh) {
            int rest = finish - second;
            for (int i = firstThatFits(songs, rest); i < poolSize; i++) {
                int s = longestFirst[i];
                int left = rest - songs.seconds[s];
                if (left > bestLeft) {
                    return;
                }
                if (mayBegin(songs, s, second, key)) {
                    row[depth] = s;
                    compare(depth + 1, left, warmth + heat[s], fresh + songs.newness[s]);
                }
            }
        }

        private int firstThatFits(Songs songs, int rest) {
            int low = 0;
            int high = poolSize;
            while (low < high) {
                int middle = (low + high) >>> 1;
                if (songs.seconds[longestFirst[middle]] > rest) {
                    low = middle + 1;
                } else {
                    high = middle;
                }
            }
            return low;
        }

        private boolean mayBegin(Songs songs, int s, int second, int key) {
            return second >= songFree[s]
                    && second >= artistFree[songs.artist[s]]
                    && (key == NONE || stepsApart(key, songs.key[s]) <= steps);
        }

        private static int stepsApart(int key, int other) {
            int way = Math.abs(key - other);
            return Math.min(way, KEYS - way);
        }

        private void compare(int size, int left, int warmth, int fresh) {
            boolean isBetter = left < bestLeft || left == bestLeft && warmth > bestHeat;
            if (!isBetter || fresh < wantedNew) {
                return;
            }
            bestSize = size;
            bestLeft = left;
            bestHeat = warmth;
            for (int i = 0; i < size; i++) {
                best[i] = row[i];
            }
        }
    }
}
