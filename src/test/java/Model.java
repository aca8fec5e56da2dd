import java.util.ArrayList;
import java.util.Arrays;
import java.util.HashSet;
import java.util.List;
import java.util.Set;

/** The document a second time, in other ways: texts that are asked anew each time, and everything tried out. */
final class Model {
    private static final class Refused extends RuntimeException {
        private static final long serialVersionUID = 1L;
    }

    /** What is KEPT. */
    private static final class World implements Cloneable {
        int[] temptation = new int[16];
        int[] gravity = new int[16];
        int[] since = new int[16];
        int[] at = new int[8];
        int[] wage = new int[8];
        boolean[] there = new boolean[8];
        int deducted;
        int crimes;
        int hour;
        int x = 1;
        int done;
        int paid;

        World copy() {
            try {
                World w = (World) clone();
                w.temptation = temptation.clone();
                w.gravity = gravity.clone();
                w.since = since.clone();
                w.at = at.clone();
                w.wage = wage.clone();
                w.there = there.clone();
                return w;
            } catch (CloneNotSupportedException e) {
                throw new IllegalStateException(e);
            }
        }
    }

    World now = new World();
    World kept;
    final boolean[] told = new boolean[16];
    final boolean[][] next = new boolean[16][16];
    final String[] beats = new String[8];
    List<String> rules = new ArrayList<>();
    final List<Integer> tape = new ArrayList<>();

    // ---- telling

    boolean isTold(int p) {
        return p >= 0 && p < 16 && told[p];
    }

    boolean isThere(int c) {
        return c >= 0 && c < 8 && now.there[c];
    }

    boolean place(int p, int t, int g) {
        if (p < 0 || p > 15 || t < 0 || t > 99 || g < 0 || g > 999) {
            return false;
        }
        told[p] = true;
        now.temptation[p] = t;
        now.gravity[p] = g;
        return true;
    }

    boolean constable(int c, int p) {
        if (c < 0 || c > 7 || !isTold(p)) {
            return false;
        }
        now.there[c] = true;
        now.at[c] = p;
        now.wage[c] = 0;
        return true;
    }

    int feed(int... five) {
        if (tape.size() > 240) {
            return -1;
        }
        for (int i = 0; i < 20; i++) {
            tape.add((int) ((five[i / 4] & 0xFFFFFFFFL) >> 8 * (3 - i % 4)) & 255);
        }
        return tape.size();
    }

    private boolean lacks(int n, int least, int most) {
        return n < least || n > most || tape.size() < n;
    }

    private int[] bytes(int n) {
        int[] bytes = new int[n];
        for (int i = 0; i < n; i++) {
            bytes[i] = tape.get(i);
        }
        tape.clear();
        return bytes;
    }

    private String text(int n) {
        StringBuilder text = new StringBuilder();
        for (int b : bytes(n)) {
            text.append((char) b);
        }
        return text.toString();
    }

    // ---- the three languages; their faults are found by machines with a stack

    int law(int n) {
        if (lacks(n, 1, 240)) {
            return -1;
        }
        String text = text(n);
        int fault = lawFault(text);
        if (fault != 0) {
            return fault;
        }
        rules = Arrays.asList(text.split(";"));
        return rules.size();
    }

    private static final int RULE = 0;
    private static final int OPERAND = 1;
    private static final int TEST = 2;
    private static final int BEHIND_OPERAND = 3;
    private static final int BEHIND_TEST = 4;
    private static final int BEHIND_RULE = 5;
    private static final int OPENING = 6;

    static int lawFault(String text) {
        StringBuilder open = new StringBuilder();
        int state = RULE;
        int digits = 0;
        int rules = 0;
        boolean compared = false;
        for (int i = 0; i <= text.length(); i++) {
            char s = i < text.length() ? text.charAt(i) : '\0';
            boolean inSum = open.length() > 0 && open.charAt(open.length() - 1) == '[';
            boolean ahead = open.indexOf("(") < 0;
            switch (state) {
                case RULE:
                    if ("wrs".indexOf(s) < 0) {
                        return -1000 - i;
                    }
                    if (++rules > 16) {
                        return -4000 - i;
                    }
                    state = s == 's' ? OPENING : OPERAND;
                    break;
                case OPENING:
                    if (s != '(') {
                        return -1000 - i;
                    }
                    open.append('(');
                    state = TEST;
                    compared = false;
                    break;
                case TEST:
                case OPERAND:
                    boolean opens = s == '[' || state == TEST && (s == '(' || s == '!');
                    if (opens) {
                        if (open.length() == 6) {
                            return -5000 - i;
                        }
                        open.append(s);
                        state = s == '[' ? OPERAND : TEST;
                    } else if (Character.isDigit(s) || s != 0 && "ptgcnlhd".indexOf(s) >= 0) {
                        digits = Character.isDigit(s) ? 1 : 0;
                        state = BEHIND_OPERAND;
                    } else {
                        return -1000 - i;
                    }
                    break;
                case BEHIND_OPERAND:
                    if (digits > 0 && Character.isDigit(s)) {
                        if (++digits > 5) {
                            return -2000 - i;
                        }
                        break;
                    }
                    digits = 0;
                    if (s != 0 && "+-*/%".indexOf(s) >= 0) {
                        state = OPERAND;
                    } else if (inSum && s == ']') {
                        open.setLength(open.length() - 1);
                    } else if (!inSum && ahead && s == '(') {
                        open.append('(');
                        state = TEST;
                        compared = false;
                    } else if (!inSum && !ahead && !compared && s != 0 && "<>=".indexOf(s) >= 0) {
                        compared = true;
                        state = OPERAND;
                    } else if (!inSum && !ahead && compared) {
                        state = BEHIND_TEST;
                        i--;
                    } else {
                        return -1000 - i;
                    }
                    break;
                case BEHIND_TEST:
                    while (open.charAt(open.length() - 1) == '!') {
                        open.setLength(open.length() - 1);
                    }
                    compared = false;
                    if (s == '&' || s == '|') {
                        state = TEST;
                    } else if (s == ')') {
                        open.setLength(open.length() - 1);
                        state = open.length() == 0 ? BEHIND_RULE : BEHIND_TEST;
                    } else {
                        return -1000 - i;
                    }
                    break;
                default:
                    if (i == text.length()) {
                        return 0;
                    }
                    if (s != ';') {
                        return -1000 - i;
                    }
                    state = RULE;
                    break;
            }
        }
        throw new IllegalStateException(text);
    }

    int beat(int c, int n) {
        if (c < 0 || c > 7 || lacks(n, 1, 60)) {
            return -1;
        }
        String text = text(n);
        StringBuilder steps = new StringBuilder();
        int fault = beatFault(text, steps);
        if (fault != 0) {
            return fault;
        }
        beats[c] = steps.toString();
        return steps.length();
    }

    static int beatFault(String text, StringBuilder steps) {
        List<int[]> open = new ArrayList<>();
        int times = 0;
        boolean empty = true;
        for (int i = 0; i <= text.length(); i++) {
            char s = i < text.length() ? text.charAt(i) : '\0';
            int first = times > 0 ? i - 1 : i;
            if (i == text.length()) {
                return times == 0 && !empty && open.isEmpty() ? 0 : -1000 - i;
            }
            if (times == 0 && s >= '2' && s <= '9') {
                times = s - '0';
            } else if (s == '(') {
                if (open.size() == 2) {
                    return -5000 - i;
                }
                open.add(new int[] {first, Math.max(times, 1), steps.length()});
                times = 0;
                empty = true;
            } else if (s == '.' || s >= 'a' && s <= 'p') {
                steps.append(Due.times(Math.max(times, 1), "" + s, ""));
                if (steps.length() > 48) {
                    return -6000 - first;
                }
                times = 0;
                empty = false;
            } else if (s == ')' && times == 0 && !empty && !open.isEmpty()) {
                int[] group = open.remove(open.size() - 1);
                steps.append(Due.times(group[1] - 1, steps.substring(group[2]), ""));
                if (steps.length() > 48) {
                    return -6000 - group[0];
                }
            } else {
                return -1000 - i;
            }
        }
        throw new IllegalStateException(text);
    }

    int pleas(int n) {
        if (lacks(n, 1, 120)) {
            return -1;
        }
        String text = text(n);
        int fault = pleasFault(text);
        if (fault != 0) {
            return fault;
        }
        String[] lines = text.split(";");
        for (String line : lines) {
            int p = line.charAt(0) - 'a';
            char sign = line.charAt(1);
            if (sign == '&' || sign == '/') {
                int q = line.charAt(2) - 'a';
                next[p][q] = sign == '&';
                next[q][p] = sign == '&';
            } else {
                int value = Integer.parseInt(line.substring(2));
                if (sign == '=') {
                    now.gravity[p] = value;
                } else {
                    int sum = now.temptation[p] + (sign == '+' ? value : -value);
                    now.temptation[p] = sum < 0 ? 0 : sum > 99 ? 99 : sum;
                }
            }
        }
        return lines.length;
    }

    private int pleasFault(String text) {
        int from = 0;
        for (int line = 1; ; line++) {
            int end = text.indexOf(';', from);
            int fault = lineFault(text, from, end < 0 ? text.length() : end, line);
            if (fault != 0 || end < 0) {
                return fault;
            }
            from = end + 1;
        }
    }

    private int lineFault(String text, int from, int end, int line) {
        if (from == end || text.charAt(from) < 'a' || text.charAt(from) > 'p') {
            return -1000 - from;
        }
        int p = text.charAt(from) - 'a';
        if (line > 20 || !told[p]) {
            return (line > 20 ? -4000 : -7000) - from;
        }
        if (from + 1 == end || "+-=&/".indexOf(text.charAt(from + 1)) < 0) {
            return -1000 - from - 1;
        }
        char sign = text.charAt(from + 1);
        int last = from + 3;
        if (from + 2 == end) {
            return -1000 - from - 2;
        }
        char third = text.charAt(from + 2);
        if (sign == '&' || sign == '/') {
            if (third < 'a' || third > 'p') {
                return -1000 - from - 2;
            }
            if (third - 'a' == p || !told[third - 'a']) {
                return (third - 'a' == p ? -6000 : -7000) - from - 2;
            }
        } else {
            int most = sign == '=' ? 3 : 2;
            if (!Character.isDigit(third)) {
                return -1000 - from - 2;
            }
            while (last < end && Character.isDigit(text.charAt(last))) {
                if (last - from - 2 == most) {
                    return -2000 - last;
                }
                last++;
            }
        }
        return last < end ? -1000 - last : 0;
    }

    // ---- the law, asked

    private int[] known;
    private String asked;
    private int reader;
    /** What does not matter is read over, not asked. */
    private boolean matters;

    private boolean takes(char sign) {
        if (reader < asked.length() && asked.charAt(reader) == sign) {
            reader++;
            return true;
        }
        return false;
    }

    private int openingOf(String rule) {
        return rule.indexOf('(');
    }

    private boolean holds(String rule) {
        asked = rule;
        reader = openingOf(rule) + 1;
        matters = true;
        try {
            return any();
        } catch (Refused e) {
            return false;
        }
    }

    private int says(String rule, int most) {
        asked = rule.substring(0, openingOf(rule));
        reader = 1;
        matters = true;
        try {
            return Math.max(0, Math.min(most, sum()));
        } catch (Refused e) {
            return 0;
        }
    }

    private boolean any() {
        boolean before = matters;
        boolean holds = all();
        while (takes('|')) {
            matters = before && !holds;
            holds |= all();
        }
        matters = before;
        return holds;
    }

    private boolean all() {
        boolean before = matters;
        boolean holds = test();
        while (takes('&')) {
            matters = before && holds;
            holds &= test();
        }
        matters = before;
        return holds;
    }

    private boolean test() {
        if (takes('!')) {
            return !test();
        }
        if (takes('(')) {
            boolean holds = any();
            takes(')');
            return holds;
        }
        int left = sum();
        char sign = asked.charAt(reader++);
        int right = sum();
        return sign == '<' ? left < right : sign == '>' ? left > right : left == right;
    }

    private int sum() {
        int value = term();
        while (true) {
            if (takes('+')) {
                value += term();
            } else if (takes('-')) {
                value -= term();
            } else {
                return value;
            }
        }
    }

    private int term() {
        int value = factor();
        while (true) {
            if (takes('*')) {
                value *= factor();
            } else if (takes('/')) {
                int by = divisor();
                value = (int) ((long) value / by);
            } else if (takes('%')) {
                int by = divisor();
                value = (int) ((long) value % by);
            } else {
                return value;
            }
        }
    }

    private int divisor() {
        int by = factor();
        if (by == 0 && matters) {
            throw new Refused();
        }
        return by == 0 ? 1 : by;
    }

    private int factor() {
        if (takes('[')) {
            int value = sum();
            takes(']');
            return value;
        }
        int letter = "ptgcnlhd".indexOf(asked.charAt(reader));
        if (letter >= 0) {
            reader++;
            return known[letter];
        }
        int value = 0;
        while (reader < asked.length() && Character.isDigit(asked.charAt(reader))) {
            value = value * 10 + asked.charAt(reader++) - '0';
        }
        return value;
    }

    private int rate(char kind, int most) {
        for (String rule : rules) {
            if (rule.charAt(0) == kind && holds(rule)) {
                return says(rule, most);
            }
        }
        return 0;
    }

    // ---- hours

    private boolean passes(World w) {
        w.done = 0;
        w.paid = 0;
        if (w.hour == 9999) {
            return false;
        }
        for (int c = 0; c < 8; c++) {
            if (w.there[c] && beats[c] != null) {
                char step = beats[c].charAt(w.hour % beats[c].length());
                if (step != '.' && told[step - 'a'] && next[w.at[c]][step - 'a']) {
                    w.at[c] = step - 'a';
                }
            }
        }
        int[] crowd = new int[16];
        for (int c = 0; c < 8; c++) {
            crowd[w.at[c]] += w.there[c] ? 1 : 0;
        }
        for (int p = 0; p < 16; p++) {
            if (told[p]) {
                w.since[p] = crowd[p] > 0 ? 0 : Math.min(99, w.since[p] + 1);
            }
        }
        for (int p = 0; p < 16; p++) {
            if (told[p]) {
                tempt(w, p, crowd);
            }
        }
        w.hour++;
        return true;
    }

    private void tempt(World w, int p, int[] crowd) {
        int near = 0;
        for (int q = 0; q < 16; q++) {
            near += next[p][q] ? crowd[q] : 0;
        }
        known = new int[] {p, w.temptation[p], w.gravity[p], crowd[p], near, w.since[p], w.hour % 24, w.crimes};
        for (String rule : rules) {
            if (rule.charAt(0) == 's' && holds(rule)) {
                return;
            }
        }
        int tenths = rate('r', 10);
        w.x = (int) ((25173L * w.x + 13849) % 65536);
        if (crowd[p] == 0 && w.x % 10 < tenths) {
            w.done++;
            w.crimes = Math.min(9999, w.crimes + 1);
            w.deducted = Math.min(999999, w.deducted + w.gravity[p]);
        }
        for (int c = 0; c < 8 && crowd[p] > 0; c++) {
            if (w.there[c] && w.at[c] == p) {
                w.wage[c] += rate('w', 99);
                w.paid += rate('w', 99);
            }
        }
    }

    int hours(int n) {
        int crimes = 0;
        for (int h = 0; h < n && n <= 240 && passes(now); h++) {
            crimes += now.done;
        }
        return n < 1 || n > 240 ? -1 : crimes;
    }

    int tried(int n, int what) {
        if (n < 1 || n > 240) {
            return -1;
        }
        World w = now.copy();
        int crimes = 0;
        int pence = 0;
        for (int h = 0; h < n && passes(w); h++) {
            crimes += w.done;
            pence += w.paid;
        }
        if (what >= 0 && what <= 2) {
            return what == 0 ? crimes : what == 1 ? pence : w.deducted - now.deducted;
        }
        if (what >= 10 && what <= 17 && isThere(what - 10)) {
            return w.at[what - 10];
        }
        if (what >= 20 && what <= 27 && isThere(what - 20)) {
            return w.wage[what - 20];
        }
        return what >= 30 && isTold(what - 30) ? w.since[what - 30] : -1;
    }

    private static int longest(String row) {
        int longest = 0;
        for (String part : row.split("x")) {
            longest = Math.max(longest, part.length());
        }
        return longest;
    }

    int alone(int p, int n) {
        World w = now.copy();
        StringBuilder row = new StringBuilder();
        for (int h = 0; h < n && n <= 240 && passes(w); h++) {
            boolean met = false;
            for (int c = 0; c < 8; c++) {
                met |= w.there[c] && w.at[c] == p;
            }
            row.append(met ? 'x' : '.');
        }
        return !isTold(p) || n < 1 || n > 240 ? -1 : longest(row.toString());
    }

    int together(int c, int d, int n) {
        if (!isThere(c) || !isThere(d) || c == d || n < 1 || n > 240) {
            return -1;
        }
        World w = now.copy();
        for (int h = 0; h <= n; h++) {
            if (w.at[c] == w.at[d]) {
                return h;
            }
            passes(w);
        }
        return -2;
    }

    int seen(int n) {
        World w = now.copy();
        int bits = 0;
        for (int h = 0; h < n && n <= 240 && passes(w); h++) {
            for (int c = 0; c < 8; c++) {
                bits |= w.there[c] ? 1 << w.at[c] : 0;
            }
        }
        return n < 1 || n > 240 ? -1 : bits;
    }

    int quiet(int n) {
        World w = now.copy();
        StringBuilder row = new StringBuilder();
        for (int h = 0; h < n && n <= 240 && passes(w); h++) {
            row.append(w.done > 0 ? 'x' : '.');
        }
        return n < 1 || n > 240 ? -1 : longest(row.toString());
    }

    // ---- how things stand

    int placeIs(int p, int what) {
        if (!isTold(p)) {
            return -1;
        }
        int there = 0;
        int near = 0;
        for (int i = 0; i < 16; i++) {
            there |= i < 8 && now.there[i] && now.at[i] == p ? 1 << i : 0;
            near |= next[p][i] ? 1 << i : 0;
        }
        int[] all = {now.temptation[p], now.gravity[p], now.since[p], there, near};
        return what < 0 || what > 4 ? -1 : all[what];
    }

    int constableIs(int c, int what) {
        if (!isThere(c) || what < 0 || what > 2) {
            return -1;
        }
        return what == 0 ? now.at[c] : what == 1 ? now.wage[c] : beats[c] == null ? 0 : beats[c].length();
    }

    int count(int what) {
        int places = 0;
        int force = 0;
        int wages = 0;
        for (int i = 0; i < 16; i++) {
            places |= told[i] ? 1 << i : 0;
            force |= i < 8 && now.there[i] ? 1 << i : 0;
            wages += i < 8 && now.there[i] ? now.wage[i] : 0;
        }
        int[] all = {now.hour, now.crimes, now.deducted, places, force, wages, rules.size(), tape.size(), now.x};
        return what < 0 || what > 8 ? -1 : all[what];
    }

    boolean seed(int x) {
        if (x < 0 || x > 65535) {
            return false;
        }
        now.x = x;
        return true;
    }

    int keep() {
        kept = now.copy();
        return now.hour;
    }

    boolean undo() {
        if (kept == null) {
            return false;
        }
        now = kept.copy();
        return true;
    }

    int check(int n) {
        if (lacks(n, 0, 16)) {
            return -2;
        }
        int[] bytes = bytes(n);
        for (int p = 0; p < n; p++) {
            if (bytes[p] != (told[p] ? now.temptation[p] : 255)) {
                return p;
            }
        }
        return -1;
    }

    // ---- places and lanes, by trying everything

    private int[][] distances() {
        int[][] far = new int[16][16];
        for (int p = 0; p < 16; p++) {
            for (int q = 0; q < 16; q++) {
                far[p][q] = p == q ? 0 : next[p][q] ? 1 : 1000;
            }
        }
        for (int k = 0; k < 16; k++) {
            for (int p = 0; p < 16; p++) {
                for (int q = 0; q < 16; q++) {
                    far[p][q] = Math.min(far[p][q], far[p][k] + far[k][q]);
                }
            }
        }
        return far;
    }

    private List<String> shortest(int p, int q) {
        int[][] far = distances();
        List<String> rows = new ArrayList<>();
        if (far[p][q] < 1000) {
            follow("" + (char) ('a' + p), q, far, rows);
        }
        return rows;
    }

    private void follow(String row, int q, int[][] far, List<String> rows) {
        int here = row.charAt(row.length() - 1) - 'a';
        if (here == q) {
            rows.add(row);
        }
        for (int p = 0; p < 16; p++) {
            if (next[here][p] && far[p][q] == far[here][q] - 1) {
                follow(row + (char) ('a' + p), q, far, rows);
            }
        }
    }

    int ways(int p, int q) {
        return isTold(p) && isTold(q) ? shortest(p, q).size() : -1;
    }

    int way(int p, int q, int what) {
        if (!isTold(p) || !isTold(q) || (what < 0 || what > 15) && what != 100) {
            return -1;
        }
        List<String> rows = shortest(p, q);
        if (rows.isEmpty()) {
            return -2;
        }
        rows.sort(null);
        String row = rows.get(0);
        return what == 100 ? row.length() - 1 : what < row.length() ? row.charAt(what) - 'a' : -4;
    }

    int worst() {
        int worst = -2;
        for (int p = 15; p >= 0; p--) {
            if (told[p] && (worst < 0
                || now.temptation[p] * now.gravity[p] >= now.temptation[worst] * now.gravity[worst])) {
                worst = p;
            }
        }
        return worst;
    }

    int posts(int what) {
        int all = count(3);
        int best = all;
        int[] around = new int[16];
        for (int p = 0; p < 16; p++) {
            around[p] = told[p] ? 1 << p | placeIs(p, 4) : 0;
        }
        for (int bits = 0; bits < 65536; bits++) {
            int watched = 0;
            for (int p = 0; p < 16; p++) {
                watched |= (bits >> p & 1) == 1 ? around[p] : 0;
            }
            if ((bits & ~all) == 0 && watched == all && Integer.bitCount(bits) < Integer.bitCount(best)) {
                best = bits;
            }
        }
        // of as many the least comes first, but for all of them, which stands at the start
        return what == 0 ? Integer.bitCount(best) : what == 1 ? best : -1;
    }

    int round(int p, int k, int what) {
        if (!isTold(p) || k < 1 || k > 8 || what < 0 || what > 1) {
            return -1;
        }
        Set<Integer> walks = new HashSet<>(List.of(1 << p << 4 | p));
        for (int step = 0; step < k; step++) {
            Set<Integer> longer = new HashSet<>();
            for (int walk : walks) {
                for (int q = 0; q < 16; q++) {
                    if (q == (walk & 15) || next[walk & 15][q]) {
                        longer.add(walk & ~15 | 1 << q << 4 | q);
                    }
                }
            }
            walks = longer;
        }
        int best = -1;
        int most = -1;
        for (int walk : walks) {
            int sum = 0;
            for (int q = 0; q < 16; q++) {
                sum += (walk >> 4 + q & 1) * now.temptation[q];
            }
            if ((walk & 15) == p && (sum > most || sum == most && walk >> 4 < best)) {
                most = sum;
                best = walk >> 4;
            }
        }
        return what == 0 ? most : best;
    }

    int lanes(int what) {
        List<int[]> lanes = new ArrayList<>();
        List<int[]> bridges = new ArrayList<>();
        for (int p = 0; p < 16; p++) {
            for (int q = p + 1; q < 16; q++) {
                if (next[p][q]) {
                    lanes.add(new int[] {p, q});
                    next[p][q] = false;
                    next[q][p] = false;
                    if (distances()[p][q] >= 1000) {
                        bridges.add(new int[] {p, q});
                    }
                    next[p][q] = true;
                    next[q][p] = true;
                }
            }
        }
        if (what == 0 || what == 1) {
            return what == 0 ? lanes.size() : bridges.size();
        }
        return what < 0 || what > 3 ? -1 : bridges.isEmpty() ? -2 : bridges.get(0)[what - 2];
    }

    int watches(int what) {
        if (what != 100 && !isTold(what)) {
            return -1;
        }
        for (int many = 0; ; many++) {
            int[] row = new int[16];
            Arrays.fill(row, -1);
            if (fill(row, 0, many, 0)) {
                return what == 100 ? many : row[what];
            }
        }
    }

    private boolean fill(int[] row, int p, int many, int used) {
        if (p == 16) {
            return true;
        }
        if (!told[p]) {
            return fill(row, p + 1, many, used);
        }
        for (int w = 0; w < many && w <= used; w++) {
            boolean free = true;
            for (int q = 0; q < p; q++) {
                free &= !next[p][q] || row[q] != w;
            }
            row[p] = w;
            if (free && fill(row, p + 1, many, Math.max(used, w + 1))) {
                return true;
            }
        }
        row[p] = -1;
        return false;
    }

    int nearest(int p, int what) {
        if (!isTold(p) || what < 0 || what > 1) {
            return -1;
        }
        int[][] far = distances();
        for (int steps = 0; steps < 16; steps++) {
            for (int c = 0; c < 8; c++) {
                if (now.there[c] && far[p][now.at[c]] == steps) {
                    return what == 0 ? c : steps;
                }
            }
        }
        return -2;
    }

    // ---- bytes

    int alibis(int n, int p, int hour) {
        if (lacks(4 * n, 4, 40) || n > 10 || n < 1 || !isTold(p) || hour < 0 || hour > 255) {
            return -1;
        }
        int[] b = bytes(4 * n);
        int[][] far = distances();
        int bits = 0;
        for (int i = 0; i < 4 * n; i += 4) {
            if (!isTold(b[i]) || !isTold(b[i + 2])) {
                return -2;
            }
            boolean true1 = b[i + 1] <= b[i + 3] && far[b[i]][b[i + 2]] <= b[i + 3] - b[i + 1];
            boolean between = b[i + 1] <= hour && hour <= b[i + 3];
            if (true1 && between && far[b[i]][p] <= hour - b[i + 1] && far[p][b[i + 2]] <= b[i + 3] - hour) {
                bits |= 1 << i / 4;
            }
        }
        return bits;
    }

    int bench(int n, int m, int what) {
        if (n < 2 || n > 6 || m < 1 || m > 9 || what < 0 || what > 2 || tape.size() < n * m) {
            return -1;
        }
        List<List<Integer>> rankings = new ArrayList<>();
        int[] b = bytes(n * m);
        for (int j = 0; j < m; j++) {
            List<Integer> ranking = new ArrayList<>();
            for (int i = 0; i < n; i++) {
                ranking.add(b[j * n + i]);
            }
            for (int i = 0; i < n; i++) {
                if (!ranking.contains(i)) {
                    return -3;
                }
            }
            rankings.add(ranking);
        }
        int[] wins = new int[n];
        int[] places = new int[n];
        int alike = 0;
        for (int a = 0; a < n; a++) {
            for (int c = 0; c < n; c++) {
                int lead = 0;
                for (List<Integer> ranking : rankings) {
                    lead += Integer.compare(ranking.indexOf(c), ranking.indexOf(a));
                }
                wins[a] += lead > 0 ? 1 : 0;
                alike += a < c && lead == 0 ? 1 : 0;
            }
            for (List<Integer> ranking : rankings) {
                places[a] += ranking.indexOf(a) + 1;
            }
        }
        int first = -2;
        int fewest = 0;
        for (int a = n - 1; a >= 0; a--) {
            first = wins[a] == n - 1 ? a : first;
            fewest = a == n - 1 || places[a] <= places[fewest] ? a : fewest;
        }
        return what == 0 ? first : what == 1 ? fewest : alike;
    }

    int likely(int n, int what) {
        if (n < 1 || n > 16 || what < 0 || what > 2 || tape.size() < 2 * n) {
            return -1;
        }
        int[] b = bytes(2 * n);
        int bits = 0;
        int whose = 0;
        for (int i = 0; i < n; i++) {
            boolean beaten = false;
            for (int j = 0; j < n; j++) {
                int l = Integer.compare(b[2 * j], b[2 * i]);
                int g = Integer.compare(b[2 * j + 1], b[2 * i + 1]);
                beaten |= l > 0 && g > 0 || l > 0 && g == 0 || l == 0 && g > 0;
            }
            bits |= beaten ? 0 : 1 << i;
            whose = b[2 * i] * b[2 * i + 1] > b[2 * whose] * b[2 * whose + 1] ? i : whose;
        }
        return what == 0 ? bits : what == 1 ? b[2 * whose] * b[2 * whose + 1] : whose;
    }

    int share(int n, int c) {
        if (n < 1 || n > 12 || c < 0 || c > 7 || tape.size() < 2 * n) {
            return -1;
        }
        int[] b = bytes(2 * n);
        int[] purse = new int[8];
        for (int i = 0; i < n; i++) {
            // penny by penny, over and over from the lowest
            for (int left = b[2 * i]; left > 0 && b[2 * i + 1] != 0; ) {
                for (int k = 0; k < 8 && left > 0; k++) {
                    if ((b[2 * i + 1] >> k & 1) == 1) {
                        purse[k]++;
                        left--;
                    }
                }
            }
        }
        return purse[c];
    }

    int odds(int n, int what) {
        if (n < 1 || n > 9 || what < 0 || what > 5 || tape.size() < n) {
            return -1;
        }
        java.math.BigInteger all = java.math.BigInteger.ONE;
        java.math.BigInteger none = java.math.BigInteger.ONE;
        java.math.BigInteger below = java.math.BigInteger.TEN.pow(n);
        for (int tenths : bytes(n)) {
            if (tenths > 10) {
                return -2;
            }
            all = all.multiply(java.math.BigInteger.valueOf(tenths));
            none = none.multiply(java.math.BigInteger.valueOf(10 - tenths));
        }
        java.math.BigInteger above = what < 2 ? all : what < 4 ? none : below.subtract(none);
        java.math.BigInteger answer = what % 2 == 0 ? above : below;
        return answer.divide(above.gcd(below)).intValueExact();
    }
}
