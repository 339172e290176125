import java.util.Random;

/** Runs of random calls, the same every time, each answer compared with the plain model's. */
public final class RandomRunsTest {
    private static final int CALLS = 512;

    private final Random random;
    private final int run;
    private final SongHour x = new SongHour();
    private final PlainModel model = new PlainModel();
    private final int songLimit;
    private final boolean isLoose;
    private int calls = 0;

    private RandomRunsTest(int run) {
        this.run = run;
        random = new Random(run);
        songLimit = run % 10 == 0 ? 24 : 3 + run % 10;
        isLoose = run % 2 == 0;
    }

    public static void main(String[] args) {
        for (int run = 1; run <= 400; run++) {
            new RandomRunsTest(run).go();
        }
        Check.finish("RandomRunsTest");
    }

    private void go() {
        for (int i = 0; i < songLimit && run % 3 != 0; i++) {
            song();
        }
        while (calls < CALLS - 80) {
            step();
        }
        ask(8);
    }

    private int upTo(int most) {
        return random.nextInt(most + 1);
    }

    /** A number from least to most, and now and then one beside them. */
    private int about(int least, int most) {
        switch (upTo(29)) {
            case 0: return least - 1;
            case 1: return most + 1;
            case 2: return random.nextInt();
            default: return least + upTo(most - least);
        }
    }

    private void due(String call, long got, long want) {
        calls++;
        Check.due("run " + run + ", call " + calls + ": " + call, got, want);
    }

    private void step() {
        switch (upTo(11)) {
            case 0: tellRules(); break;
            case 1: case 2: tellClock(); break;
            case 3: case 4: song(); break;
            case 5: case 6: vote(); break;
            case 7: askFor(); break;
            case 8: case 9: lay(); break;
            case 10: tapeAlone(); break;
            default: ask(3); break;
        }
    }

    private void feed(int[] n) {
        due("feed", x.feed(n[0], n[1], n[2], n[3], n[4]), model.feed(n));
    }

    private void end(int n) {
        due("end(" + n + ")", x.end(n) ? 1 : 0, model.end(n) ? 1 : 0);
    }

    private void tapeAlone() {
        if (upTo(3) == 0) {
            feed(new int[] {random.nextInt(), random.nextInt(), 0, -1, random.nextInt()});
        }
        end(about(0, 30));
        due("count(6)", x.count(6), model.count(6));
    }

    private void put(String text) {
        int before = model.count(6);
        if (before > 0 && upTo(9) > 0) {
            end(0);
            before = 0;
        }
        for (int from = 0; from < text.length(); from += 20) {
            feed(Check.numbers(text, from));
        }
        end(before + text.length());
    }

    private String gapOf() {
        String[] gaps = {" ", "  ", "\n", " \n "};
        return gaps[upTo(gaps.length - 1)];
    }

    private String maybeGap() {
        return upTo(3) == 0 ? gapOf() : "";
    }

    private String digits(int n) {
        return upTo(9) == 0 ? String.format("%04d", n) : Integer.toString(n);
    }

    private String ruleText() {
        String[] names = {"gap", "artist", "keys", "slack", "most"};
        int[] low = {0, 0, 0, 0, 1};
        int[] high = {isLoose ? 12 : 240, isLoose ? 8 : 90, 6, isLoose ? 900 : 90, 4};
        StringBuilder text = new StringBuilder(maybeGap());
        for (int k = 0; k < 5; k++) {
            if (upTo(4) > 0) {
                int value = k == 4 && upTo(2) > 0 ? 4 : Math.abs(about(low[k], high[k]) % 10000);
                text.append(names[k]).append(gapOf()).append(digits(value)).append(maybeGap()).append(";").append(maybeGap());
            }
        }
        return text.toString();
    }

    private String clockText() {
        StringBuilder text = new StringBuilder(maybeGap());
        int rest = 3600;
        int size = 1 + upTo(upTo(7));
        for (int i = 0; i < size && rest > 0; i++) {
            int n = i == size - 1 ? rest : 1 + upTo(Math.min(rest - 1, 1400));
            n = run % 4 == 0 && n > 50 && i < size - 1 ? n - n % 50 : n;
            rest -= n;
            boolean isSongs = upTo(3) > 0;
            text.append(isSongs ? "songs" : "talk").append(gapOf()).append(digits(n)).append(maybeGap());
            if (isSongs && upTo(3) == 0) {
                text.append(" mood").append(gapOf()).append(upTo(19) == 0 ? 4 : upTo(3));
            }
            if (isSongs && upTo(3) == 0) {
                text.append(" new").append(gapOf()).append(upTo(19) == 0 ? 5 : upTo(2));
            }
            text.append(maybeGap()).append(";").append(maybeGap());
        }
        return text.toString();
    }

    private String spoilt(String text, int limit) {
        StringBuilder s = new StringBuilder(text);
        int place = upTo(s.length());
        switch (upTo(6)) {
            case 0: s.insert(place, (char) upTo(255)); break;
            case 1: s.insert(place, "0123456789;abcsongtalkmoodnew \n".charAt(upTo(30))); break;
            case 2: if (place < s.length()) s.deleteCharAt(place); break;
            case 3: s.setLength(place); break;
            case 4: s.insert(place, Check.blanks(Math.max(0, limit + 2 - s.length() - upTo(4)))); break;
            case 5: s.append(Check.blanks(Math.max(0, limit - upTo(3) - s.length()))).append("gap 17;".substring(upTo(6))); break;
            default: s.append(text); break;
        }
        return s.length() > 260 ? s.substring(0, 260) : s.toString();
    }

    private void tellRules() {
        String text = ruleText();
        put(upTo(2) == 0 ? spoilt(text, 120) : text);
        due("rules()", x.rules(), model.rules());
        due("fault()", x.fault(), model.fault());
        int k = about(0, 4);
        due("rule(" + k + ")", x.rule(k), model.rule(k));
    }

    private void tellClock() {
        String text = clockText();
        put(upTo(3) == 0 ? spoilt(text, 240) : text);
        int k = about(0, 2);
        due("clock(" + k + ")", Check.outcome(() -> x.clock(k)), model.clock(k));
        due("fault()", x.fault(), model.fault());
        int other = about(0, 5);
        due("items(" + other + ")", Check.outcome(() -> x.items(other)), model.items(other));
    }

    private void song() {
        if (model.count(1) >= songLimit && upTo(9) > 0) {
            return;
        }
        int seconds = run % 4 == 0 ? 200 + 50 * upTo(4) : about(30, upTo(1) == 0 ? 900 : 400);
        int artist = about(0, 11);
        int key = about(0, 11);
        int mood = about(0, isLoose ? 1 : 3);
        boolean isNew = random.nextBoolean();
        String call = "song(" + seconds + ", " + artist + ", " + key + ", " + mood + ", " + isNew + ")";
        due(call, x.song(seconds, artist, key, mood, isNew), model.song(seconds, artist, key, mood, isNew));
    }

    private int someSong() {
        return about(0, Math.max(0, model.count(1) - 1));
    }

    private void vote() {
        int s = someSong();
        int mark = about(0, 9);
        due("vote(" + s + ", " + mark + ")", x.vote(s, mark), model.vote(s, mark));
    }

    private void askFor() {
        int s = someSong();
        due("ask(" + s + ")", x.ask(s), model.ask(s));
    }

    private void lay() {
        int k = about(0, 2);
        due("lay(" + k + ")", Check.outcome(() -> x.lay(k)), model.lay(k));
        for (int what = 2; what <= 5; what++) {
            due("count(" + what + ")", x.count(what), model.count(what));
        }
        int last = model.count(2) - 1 - upTo(3);
        for (int what = 0; what <= 3; what++) {
            lookAtPlay(last, what);
        }
    }

    private void lookAtPlay(int p, int what) {
        due("play(" + p + ", " + what + ")", Check.outcome(() -> x.play(p, what)), model.play(p, what));
    }

    private void ask(int times) {
        for (int i = 0; i < times; i++) {
            int s = someSong();
            int what = about(0, 6);
            int h = about(0, Math.max(0, model.count(0) - 1));
            int item = about(0, 7);
            int second = about(0, 3600 * (1 + model.count(0)));
            int other = about(0, 3600 * (1 + model.count(0)));
            int artist = about(0, 11);
            due("told(" + s + ", " + what + ")", x.told(s, what), model.told(s, what));
            due("left(" + h + ", " + item + ")", Check.outcome(() -> x.left(h, item)), model.left(h, item));
            due("at(" + second + ")", x.at(second), model.at(second));
            due("rights(" + artist + ", " + second + ", " + other + ")", x.rights(artist, second, other), model.rights(artist, second, other));
            due("count(" + what + ")", x.count(what), model.count(what));
            lookAtPlay(about(0, Math.max(0, model.count(2) - 1)), what);
        }
    }
}
