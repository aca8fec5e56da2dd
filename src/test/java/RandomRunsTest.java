import java.util.Random;

/** Runs with drawn calls; every answer is compared with the model's. The same runs each time. */
public final class RandomRunsTest {
    private static final int RUNS = 600;
    private static final int CALLS = 500;

    private final IdleCrimes x = new IdleCrimes();
    private final Model model = new Model();
    private final Random random;
    private final Due due;
    /** How many PLACES this run is about, and how thick its lanes are. */
    private final int town;
    private final int thick;

    private RandomRunsTest(long seed, Due due) {
        random = new Random(seed);
        this.due = due;
        town = 1 + random.nextInt(16);
        thick = 1 + random.nextInt(10);
        due.promise("random run " + seed);
    }

    public static void main(String[] args) {
        Due due = new Due();
        for (int run = 0; run < RUNS; run++) {
            RandomRunsTest test = new RandomRunsTest(run, due);
            test.begin();
            for (int i = 0; i < CALLS / 2; i++) {
                test.call();
            }
        }
        due.tell();
    }

    private int below(int n) {
        return random.nextInt(n);
    }

    private boolean oneIn(int n) {
        return random.nextInt(n) == 0;
    }

    /** Mostly within 0 to n - 1, sometimes just or far beyond. */
    private int near(int n) {
        if (!oneIn(12)) {
            return below(n);
        }
        int[] beyond = {-1, n, n + 1, -2, 100, 32, 64, Integer.MIN_VALUE, Integer.MAX_VALUE};
        return beyond[below(beyond.length)];
    }

    private int hourCount() {
        int[] counts = {1, 2, 3, 5, 10, 24, 48, 240, 0, -1, 241};
        return counts[below(oneIn(8) ? counts.length : 7)];
    }

    private void begin() {
        for (int p = 0; p < town; p++) {
            if (!oneIn(9)) {
                tellPlace(p);
            }
        }
        StringBuilder lanes = new StringBuilder();
        for (int p = 0; p < 16; p++) {
            for (int q = p + 1; q < 16; q++) {
                if (model.told[p] && model.told[q] && below(10) < thick - 1 + (q == p + 1 ? 3 : 0)) {
                    lanes.append(lanes.length() == 0 ? "" : ";").append((char) ('a' + p)).append('&').append((char) ('a' + q));
                    if (lanes.length() > 70) {
                        tellPleas(lanes.toString());
                        lanes.setLength(0);
                    }
                }
            }
        }
        if (lanes.length() > 0) {
            tellPleas(lanes.toString());
        }
        for (int c = 0; c < 4; c++) {
            tellConstable(below(8), below(town));
            feed(beatText());
            askBeat(below(8), lastLength);
        }
        feed(lawText());
        askLaw(lastLength);
    }

    private void tellPlace(int p) {
        int t = near(oneIn(3) ? 4 : 100);
        int g = near(oneIn(3) ? 4 : 1000);
        due.is("place(" + p + ", " + t + ", " + g + ")", x.place(p, t, g), model.place(p, t, g));
    }

    private void tellConstable(int c, int p) {
        due.is("constable(" + c + ", " + p + ")", x.constable(c, p), model.constable(c, p));
    }

    private void tellPleas(String text) {
        feed(text);
        due.is("pleas " + text, x.pleas(text.length()), model.pleas(text.length()));
    }

    private int lastLength = 0;
    private String lastText = "";

    private void feed(String text) {
        int[] bytes = new int[text.length()];
        for (int i = 0; i < bytes.length; i++) {
            bytes[i] = text.charAt(i);
        }
        feed(bytes);
        lastText = text;
    }

    private void feed(int... bytes) {
        lastLength = bytes.length;
        for (int from = 0; from < bytes.length; from += 20) {
            int[] five = Due.fives(bytes, from);
            due.is("feed", x.feed(five[0], five[1], five[2], five[3], five[4]), model.feed(five));
        }
    }

    // ---- texts

    private String spoilt(String text) {
        if (!oneIn(3)) {
            return text;
        }
        StringBuilder spoilt = new StringBuilder(text);
        String signs = "wrsptgcnlhd()[]!&|+-*/%<>=;0123459.aabp \u00ff";
        int where = below(text.length());
        char sign = signs.charAt(below(signs.length()));
        switch (below(4)) {
            case 0: spoilt.setCharAt(where, sign); break;
            case 1: spoilt.insert(where, sign); break;
            case 2: spoilt.deleteCharAt(where); break;
            default: spoilt.setLength(where); break;
        }
        return spoilt.length() == 0 ? "x" : spoilt.toString();
    }

    private String lawText() {
        StringBuilder text = new StringBuilder();
        int rules = oneIn(30) ? 17 : 1 + below(5);
        for (int i = 0; i < rules; i++) {
            char kind = "wwrrrs".charAt(below(6));
            text.append(i == 0 ? "" : ";").append(kind).append(kind == 's' ? "" : rules > 9 ? "1" : sum(0)).append('(');
            text.append(rules > 9 ? "p=0" : claim(0)).append(')');
        }
        return spoilt(text.length() > 260 ? text.substring(0, 240) : text.toString());
    }

    private String claim(int deep) {
        StringBuilder text = new StringBuilder(test(deep));
        while (oneIn(3)) {
            text.append(oneIn(2) ? '&' : '|').append(test(deep));
        }
        return text.toString();
    }

    private String test(int deep) {
        if (deep < 6 && oneIn(6)) {
            return "!" + test(deep + 1);
        }
        if (deep < 6 && oneIn(6)) {
            return "(" + claim(deep + 1) + ")";
        }
        return sum(deep) + "<>=".charAt(below(3)) + sum(deep);
    }

    private String sum(int deep) {
        StringBuilder text = new StringBuilder(factor(deep));
        while (oneIn(3)) {
            text.append("+-*/%".charAt(below(5))).append(factor(deep));
        }
        return text.toString();
    }

    private String factor(int deep) {
        if (deep < 6 && oneIn(8)) {
            return "[" + sum(deep + 1) + "]";
        }
        if (oneIn(2)) {
            return "" + "ptgcnlhd".charAt(below(8));
        }
        return "" + (oneIn(12) ? below(200000) : below(12));
    }

    private String beatText() {
        StringBuilder text = new StringBuilder();
        int items = 1 + below(5);
        for (int i = 0; i < items; i++) {
            text.append(beatItem(0));
        }
        return spoilt(text.length() > 60 ? text.substring(0, 60) : text.toString());
    }

    private String beatItem(int deep) {
        String times = oneIn(4) ? "" + (2 + below(oneIn(4) ? 8 : 2)) : "";
        if (deep < 3 && oneIn(4 + 3 * deep)) {
            StringBuilder text = new StringBuilder(times).append('(');
            int items = 1 + below(3);
            for (int i = 0; i < items; i++) {
                text.append(beatItem(deep + 1));
            }
            return text.append(')').toString();
        }
        return times + (oneIn(4) ? '.' : letter());
    }

    private char letter() {
        return (char) ('a' + below(oneIn(20) ? 18 : town));
    }

    private String pleasText() {
        StringBuilder text = new StringBuilder();
        int lines = oneIn(20) ? 21 : 1 + below(4);
        for (int i = 0; i < lines; i++) {
            text.append(i == 0 ? "" : ";").append(letter());
            char sign = "+-=&/".charAt(below(5));
            text.append(sign).append(sign == '&' || sign == '/' ? "" + letter() : "" + below(sign == '=' ? 1000 : 100));
        }
        return spoilt(text.length() > 120 ? text.substring(0, 120) : text.toString());
    }

    // ---- calls

    private void askLaw(int n) {
        due.is("law(" + n + ") of " + lastText, x.law(n), model.law(n));
    }

    private void askBeat(int c, int n) {
        due.is("beat(" + c + ", " + n + ") of " + lastText, x.beat(c, n), model.beat(c, n));
    }

    private void call() {
        switch (below(8)) {
            case 0: text(); break;
            case 1: tell(); break;
            case 2: case 3: tryHours(); break;
            case 4: case 5: streets(); break;
            case 6: bytes(); break;
            default: stand(); break;
        }
    }

    private int someLength() {
        return oneIn(15) ? near(262) : lastLength;
    }

    private void text() {
        switch (below(4)) {
            case 0:
                feed(lawText());
                askLaw(someLength());
                break;
            case 1:
                feed(beatText());
                askBeat(near(8), someLength());
                break;
            case 2:
                feed(pleasText());
                int n = someLength();
                due.is("pleas(" + n + ") of " + lastText, x.pleas(n), model.pleas(n));
                break;
            default:
                if (oneIn(3)) {
                    feed(random.ints(20, 0, 256).toArray());
                }
                break;
        }
    }

    private void tell() {
        switch (below(6)) {
            case 0: tellPlace(oneIn(3) ? near(16) : below(town)); break;
            case 1: tellConstable(near(8), oneIn(3) ? near(16) : below(town)); break;
            case 2:
                int seed = near(65536);
                due.is("seed(" + seed + ")", x.seed(seed), model.seed(seed));
                break;
            case 3:
                due.is("keep()", x.keep(), model.keep());
                break;
            case 4:
                due.is("undo()", x.undo(), model.undo());
                break;
            default:
                int n = oneIn(4) ? 240 : hourCount();
                due.is("hours(" + n + ")", x.hours(n), model.hours(n));
                break;
        }
    }

    private void tryHours() {
        int n = hourCount();
        int p = near(16);
        int c = near(8);
        int d = near(8);
        switch (below(6)) {
            case 0: case 1:
                int[] whats = {0, 1, 2, 10 + below(9), 20 + below(9), 30 + below(17), near(50)};
                int what = whats[below(whats.length)];
                due.is("tried(" + n + ", " + what + ")", x.tried(n, what), model.tried(n, what));
                break;
            case 2: due.is("alone(" + p + ", " + n + ")", x.alone(p, n), model.alone(p, n)); break;
            case 3: due.is("together(" + c + ", " + d + ", " + n + ")", x.together(c, d, n), model.together(c, d, n)); break;
            case 4: due.is("seen(" + n + ")", x.seen(n), model.seen(n)); break;
            default: due.is("quiet(" + n + ")", x.quiet(n), model.quiet(n)); break;
        }
    }

    private void streets() {
        int p = oneIn(3) ? near(16) : below(town);
        int q = oneIn(3) ? near(16) : below(town);
        int two = near(2);
        switch (below(8)) {
            case 0: due.is("ways(" + p + ", " + q + ")", x.ways(p, q), model.ways(p, q)); break;
            case 1:
                int what = oneIn(3) ? near(16) : oneIn(2) ? 100 : below(4);
                due.is("way(" + p + ", " + q + ", " + what + ")", x.way(p, q, what), model.way(p, q, what));
                break;
            case 2: due.is("worst()", x.worst(), model.worst()); break;
            case 3:
                if (oneIn(4)) {
                    due.is("posts(" + two + ")", x.posts(two), model.posts(two));
                }
                break;
            case 4:
                int k = 1 + near(thick > 5 && town > 8 ? 5 : 8);
                due.is("round(" + p + ", " + k + ", " + two + ")", x.round(p, k, two), model.round(p, k, two));
                break;
            case 5:
                int four = near(4);
                due.is("lanes(" + four + ")", x.lanes(four), model.lanes(four));
                break;
            case 6:
                int whose = oneIn(3) ? 100 : p;
                due.is("watches(" + whose + ")", x.watches(whose), model.watches(whose));
                break;
            default: due.is("nearest(" + p + ", " + two + ")", x.nearest(p, two), model.nearest(p, two)); break;
        }
    }

    private void bytes() {
        int n = 1 + near(oneIn(2) ? 4 : 16);
        int what = near(3);
        switch (below(6)) {
            case 0:
                feedAlibis(Math.max(0, Math.min(n, 11)));
                int p = near(16);
                int hour = oneIn(8) ? near(256) : below(14);
                due.is("alibis(" + n + ", " + p + ", " + hour + ")", x.alibis(n, p, hour), model.alibis(n, p, hour));
                break;
            case 1:
                int cases = 2 + near(5);
                int judges = 1 + near(9);
                feedRankings(cases, judges);
                due.is("bench(" + cases + ", " + judges + ", " + what + ")", x.bench(cases, judges, what),
                    model.bench(cases, judges, what));
                break;
            case 2:
                feed(random.ints(2 * Math.max(0, Math.min(n, 17)), 0, oneIn(2) ? 256 : 5).toArray());
                due.is("likely(" + n + ", " + what + ")", x.likely(n, what), model.likely(n, what));
                break;
            case 3:
                int c = near(8);
                feed(random.ints(2 * Math.max(0, Math.min(n, 13)), 0, 256).toArray());
                due.is("share(" + n + ", " + c + ")", x.share(n, c), model.share(n, c));
                break;
            case 4:
                int six = near(6);
                feed(random.ints(Math.max(0, Math.min(n, 10)), 0, oneIn(6) ? 12 : 11).toArray());
                due.is("odds(" + n + ", " + six + ")", x.odds(n, six), model.odds(n, six));
                break;
            default:
                feedTemptations();
                int many = near(17);
                due.is("check(" + many + ")", x.check(many), model.check(many));
                break;
        }
    }

    private void feedAlibis(int n) {
        int[] bytes = new int[4 * n];
        for (int i = 0; i < bytes.length; i += 2) {
            bytes[i] = below(oneIn(30) ? 18 : town);
            bytes[i + 1] = oneIn(20) ? below(256) : below(6) + 3 * (i % 4);
        }
        feed(bytes);
    }

    private void feedRankings(int n, int m) {
        if (n < 2 || n > 6 || m < 1 || m > 9) {
            return;
        }
        int[] bytes = new int[n * m];
        for (int j = 0; j < m; j++) {
            for (int i = 0; i < n; i++) {
                int other = j * n + below(i + 1);
                bytes[j * n + i] = bytes[other];
                bytes[other] = i;
            }
        }
        if (oneIn(10)) {
            bytes[below(bytes.length)] = below(8);
        }
        feed(bytes);
    }

    private void feedTemptations() {
        int[] bytes = new int[16];
        for (int p = 0; p < 16; p++) {
            bytes[p] = model.told[p] ? model.placeIs(p, 0) : 255;
        }
        if (oneIn(2)) {
            bytes[below(16)] = below(256);
        }
        feed(bytes);
    }

    private void stand() {
        for (int p = 0; p < 16; p++) {
            int what = near(5);
            due.is("placeIs(" + p + ", " + what + ")", x.placeIs(p, what), model.placeIs(p, what));
        }
        for (int c = 0; c < 8; c++) {
            int what = near(3);
            due.is("constableIs(" + c + ", " + what + ")", x.constableIs(c, what), model.constableIs(c, what));
        }
        for (int what = -1; what < 10; what++) {
            due.is("count(" + what + ")", x.count(what), model.count(what));
        }
    }
}
