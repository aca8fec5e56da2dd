/** A borough that pays its constables for the crimes that did not happen; README.md says how to use it. */
public final class IdleCrimes {
    public static final int NONE = -1;

    private static final int PLACES = 16;
    private static final int CONSTABLES = 8;
    private static final int NOT_TOLD = 255;
    private static final int MOST_AT_A_CALL = 240;
    private static final int LAST_HOUR = 9999;
    private static final int MOST_CRIMES = 9999;
    private static final int MOST_PENCE = 999999;
    private static final int MOST_SINCE = 99;
    private static final int MOST_TEMPTATION = 99;
    private static final int MOST_GRAVITY = 999;
    private static final int MOST_TENTHS = 10;
    private static final int MOST_WAGE = 99;
    private static final int MOST_CASES = 6;
    private static final int MOST_JUDGES = 9;

    private static final int NOT_SO = -2;
    private static final int NO_RANKING = -3;
    private static final int NO_SUCH_STEP = -4;

    private final Tape tape = new Tape();
    private final Borough borough = new Borough();
    private final State now = new State();
    private final State trial = new State();
    private final State kept = new State();
    private final Beat[] beats = new Beat[CONSTABLES];
    private final Shift shift = new Shift();
    private final Petition petition = new Petition();
    private final Rota rota = new Rota();
    private final int[] ranks = new int[MOST_CASES * MOST_JUDGES];
    private Beat spareBeat = new Beat();
    private Law theLaw = new Law();
    private Law spareLaw = new Law();
    private Walks walks = null;
    private boolean wasKept = false;

    public IdleCrimes() {
        for (int c = 0; c < beats.length; c++) {
            beats[c] = new Beat();
        }
    }

    // ---- what is told

    public boolean place(int p, int temptation, int gravity) {
        if (!within(p, 0, PLACES - 1) || !within(temptation, 0, MOST_TEMPTATION) || !within(gravity, 0, MOST_GRAVITY)) {
            return false;
        }
        borough.told |= 1 << p;
        put(now.temptation, p, temptation);
        put(now.gravity, p, gravity);
        return true;
    }

    public boolean constable(int c, int p) {
        if (!within(c, 0, CONSTABLES - 1) || !borough.isTold(p)) {
            return false;
        }
        now.force |= 1 << c;
        put(now.where, c, p);
        put(now.wage, c, 0);
        return true;
    }

    public boolean seed(int x) {
        if (!within(x, 0, 65535)) {
            return false;
        }
        now.x = x;
        return true;
    }

    // ---- the tape and its texts

    public int feed(int a, int b, int c, int d, int e) {
        if (tape.size + 20 > Tape.MOST) {
            return NONE;
        }
        tape.append(a);
        tape.append(b);
        tape.append(c);
        tape.append(d);
        tape.append(e);
        return tape.size;
    }

    public int law(int n) {
        if (!within(n, 1, Law.MOST_BYTES) || !tape.holds(n)) {
            return NONE;
        }
        tape.open(n);
        spareLaw.read(tape);
        if (tape.isFine()) {
            Law before = theLaw;
            theLaw = spareLaw;
            spareLaw = before;
        }
        return tape.answer(theLaw.rules);
    }

    public int beat(int c, int n) {
        if (!within(c, 0, beats.length - 1) || !within(n, 1, Beat.MOST_BYTES) || !tape.holds(n)) {
            return NONE;
        }
        tape.open(n);
        spareBeat.read(tape);
        int steps = spareBeat.size;
        if (tape.isFine()) {
            Beat before = beats[c];
            beats[c] = spareBeat;
            spareBeat = before;
        }
        return tape.answer(steps);
    }

    public int pleas(int n) {
        if (!within(n, 1, Petition.MOST_BYTES) || !tape.holds(n)) {
            return NONE;
        }
        tape.open(n);
        petition.read(tape, borough);
        if (tape.isFine()) {
            petition.grant(now, borough);
        }
        return tape.answer(petition.lines);
    }

    // ---- hours that go by, and hours that are tried

    public int hours(int n) {
        if (!isHours(n)) {
            return NONE;
        }
        int crimes = 0;
        for (int h = 0; h < n && passes(now); h++) {
            crimes += shift.done;
        }
        return crimes;
    }

    public int tried(int n, int what) {
        if (!isHours(n) || !canBeTried(what)) {
            return NONE;
        }
        int crimes = 0;
        int pence = 0;
        trial.copy(now);
        for (int h = 0; h < n && passes(trial); h++) {
            crimes += shift.done;
            pence += shift.paid;
        }
        if (what == 0) {
            return crimes;
        }
        if (what == 1) {
            return pence;
        }
        if (what == 2) {
            return trial.deducted - now.deducted;
        }
        if (what < 20) {
            return at(trial.where, what - 10);
        }
        return what < 30 ? at(trial.wage, what - 20) : at(trial.since, what - 30);
    }

    private boolean canBeTried(int what) {
        if (within(what, 30, 30 + PLACES - 1)) {
            return borough.isTold(what - 30);
        }
        if (within(what, 20, 20 + CONSTABLES - 1)) {
            return now.isTold(what - 20);
        }
        return within(what, 0, 2) || within(what, 10, 10 + CONSTABLES - 1) && now.isTold(what - 10);
    }

    public int alone(int p, int n) {
        if (!borough.isTold(p) || !isHours(n)) {
            return NONE;
        }
        int longest = 0;
        int row = 0;
        trial.copy(now);
        for (int h = 0; h < n && passes(trial); h++) {
            row = trial.standAt(p) == 0 ? row + 1 : 0;
            longest = Math.max(longest, row);
        }
        return longest;
    }

    public int together(int c, int d, int n) {
        if (!now.isTold(c) || !now.isTold(d) || c == d || !isHours(n)) {
            return NONE;
        }
        if (at(now.where, c) == at(now.where, d)) {
            return 0;
        }
        trial.copy(now);
        for (int h = 1; h <= n && passes(trial); h++) {
            if (at(trial.where, c) == at(trial.where, d)) {
                return h;
            }
        }
        return NOT_SO;
    }

    public int seen(int n) {
        if (!isHours(n)) {
            return NONE;
        }
        int bits = 0;
        trial.copy(now);
        for (int h = 0; h < n && passes(trial); h++) {
            bits |= trial.stoodAt();
        }
        return bits;
    }

    public int quiet(int n) {
        if (!isHours(n)) {
            return NONE;
        }
        int longest = 0;
        int row = 0;
        trial.copy(now);
        for (int h = 0; h < n && passes(trial); h++) {
            row = shift.done == 0 ? row + 1 : 0;
            longest = Math.max(longest, row);
        }
        return longest;
    }

    private static boolean isHours(int n) {
        return within(n, 1, MOST_AT_A_CALL);
    }

    private boolean passes(State state) {
        return shift.passes(state, theLaw, borough, beats);
    }

    // ---- how things stand

    public int placeIs(int p, int what) {
        if (!borough.isTold(p)) {
            return NONE;
        }
        switch (what) {
            case 0: return at(now.temptation, p);
            case 1: return at(now.gravity, p);
            case 2: return at(now.since, p);
            case 3: return now.standAt(p);
            case 4: return at(borough.next, p);
            default: return NONE;
        }
    }

    public int constableIs(int c, int what) {
        if (!now.isTold(c) || !within(c, 0, beats.length - 1)) {
            return NONE;
        }
        switch (what) {
            case 0: return at(now.where, c);
            case 1: return at(now.wage, c);
            case 2: return beats[c] == null ? 0 : beats[c].size;
            default: return NONE;
        }
    }

    public int count(int what) {
        switch (what) {
            case 0: return now.hour;
            case 1: return now.crimes;
            case 2: return now.deducted;
            case 3: return borough.told;
            case 4: return now.force;
            case 5: return now.wages();
            case 6: return theLaw.rules;
            case 7: return tape.size;
            case 8: return now.x;
            default: return NONE;
        }
    }

    public int check(int n) {
        if (!within(n, 0, PLACES) || !tape.holds(n)) {
            return NOT_SO;
        }
        tape.open(n);
        for (int p = 0; p < n; p++) {
            int due = borough.isTold(p) ? at(now.temptation, p) : NOT_TOLD;
            if (tape.byteAt(p) != due) {
                return p;
            }
        }
        return NONE;
    }

    public int keep() {
        kept.copy(now);
        wasKept = true;
        return now.hour;
    }

    public boolean undo() {
        if (wasKept) {
            now.copy(kept);
        }
        return wasKept;
    }

    // ---- places and the lanes between them

    public int worst() {
        int most = -1;
        int which = NOT_SO;
        for (int p = 0; p < PLACES; p++) {
            int product = at(now.temptation, p) * at(now.gravity, p);
            if (borough.isTold(p) && product > most) {
                most = product;
                which = p;
            }
        }
        return which;
    }

    public int ways(int p, int q) {
        if (!borough.isTold(p) || !borough.isTold(q)) {
            return NONE;
        }
        return borough.shortestWays(p, q);
    }

    public int way(int p, int q, int what) {
        if (!borough.isTold(p) || !borough.isTold(q) || what != 100 && !within(what, 0, PLACES - 1)) {
            return NONE;
        }
        borough.measure(q);
        int steps = borough.stepsTo(p);
        if (steps < 0) {
            return NOT_SO;
        }
        if (what == 100) {
            return steps;
        }
        return what > steps ? NO_SUCH_STEP : borough.stepTowards(p, what);
    }

    public int nearest(int p, int what) {
        if (!borough.isTold(p) || !within(what, 0, 1)) {
            return NONE;
        }
        borough.measure(p);
        int who = NOT_SO;
        int fewest = NOT_SO;
        for (int c = 0; c < CONSTABLES; c++) {
            int steps = now.isTold(c) ? borough.stepsTo(at(now.where, c)) : -1;
            if (steps >= 0 && (fewest < 0 || steps < fewest)) {
                who = c;
                fewest = steps;
            }
        }
        return what == 0 ? who : fewest;
    }

    public int posts(int what) {
        if (!within(what, 0, 1)) {
            return NONE;
        }
        int bits = borough.fewestPosts();
        return what == 0 ? Integer.bitCount(bits) : bits;
    }

    public int round(int p, int k, int what) {
        if (!borough.isTold(p) || !within(k, 1, Walks.MOST_STEPS) || !within(what, 0, 1)) {
            return NONE;
        }
        // its rows are long and few objects are asked for a round
        if (walks == null) {
            walks = new Walks();
        }
        int bits = walks.best(p, k, now.temptation, borough);
        return what == 0 ? sumOf(now.temptation, bits) : bits;
    }

    public int lanes(int what) {
        if (!within(what, 0, 3)) {
            return NONE;
        }
        if (what == 0) {
            return borough.lanesInAll();
        }
        if (what == 1) {
            return borough.bridgesInAll();
        }
        int first = borough.firstBridge();
        if (first < 0) {
            return NOT_SO;
        }
        return what == 2 ? first / PLACES : first % PLACES;
    }

    public int watches(int what) {
        if (what != 100 && !borough.isTold(what)) {
            return NONE;
        }
        int fewest = rota.fewest(borough);
        return what == 100 ? fewest : rota.watchOf(what, fewest, borough);
    }

    // ---- what is asked of bytes on the tape

    public int alibis(int n, int p, int hour) {
        if (!within(n, 1, 10) || !borough.isTold(p) || !within(hour, 0, 255) || !tape.holds(4 * n)) {
            return NONE;
        }
        tape.open(4 * n);
        for (int i = 0; i < n; i++) {
            if (!borough.isTold(tape.byteAt(4 * i)) || !borough.isTold(tape.byteAt(4 * i + 2))) {
                return NOT_SO;
            }
        }
        borough.measure(p);
        int bits = 0;
        for (int i = 0; i < n; i++) {
            // who has the time to come and to go on has the time for what he swears
            boolean couldCome = reaches(tape.byteAt(4 * i), hour - tape.byteAt(4 * i + 1));
            boolean couldGo = reaches(tape.byteAt(4 * i + 2), tape.byteAt(4 * i + 3) - hour);
            if (couldCome && couldGo) {
                bits |= 1 << i;
            }
        }
        return bits;
    }

    private boolean reaches(int p, int hoursLeft) {
        int steps = borough.stepsTo(p);
        return steps >= 0 && steps <= hoursLeft;
    }

    public int bench(int n, int m, int what) {
        if (!within(n, 2, MOST_CASES) || !within(m, 1, MOST_JUDGES) || !within(what, 0, 2) || !tape.holds(n * m)) {
            return NONE;
        }
        tape.open(n * m);
        for (int judge = 0; judge < m; judge++) {
            if (!takesRanking(n, judge)) {
                return NO_RANKING;
            }
        }
        if (what == 0) {
            return beatsAllOthers(n, m);
        }
        return what == 1 ? fewestPlaces(n, m) : twosAlike(n, m);
    }

    private boolean takesRanking(int n, int judge) {
        int named = 0;
        for (int i = 0; i < n; i++) {
            int which = tape.byteAt(judge * n + i);
            if (which >= n || has(named, which)) {
                return false;
            }
            named |= 1 << which;
            put(ranks, judge * MOST_CASES + which, i);
        }
        return true;
    }

    /** How many judges think a likelier than b. */
    private int judgesFor(int a, int b, int m) {
        int judges = 0;
        for (int judge = 0; judge < m; judge++) {
            if (at(ranks, judge * MOST_CASES + a) < at(ranks, judge * MOST_CASES + b)) {
                judges++;
            }
        }
        return judges;
    }

    private int beatsAllOthers(int n, int m) {
        for (int a = 0; a < n; a++) {
            int beaten = 0;
            for (int b = 0; b < n; b++) {
                if (a != b && 2 * judgesFor(a, b, m) > m) {
                    beaten++;
                }
            }
            if (beaten == n - 1) {
                return a;
            }
        }
        return NOT_SO;
    }

    private int fewestPlaces(int n, int m) {
        int which = NONE;
        int fewest = 0;
        for (int a = 0; a < n; a++) {
            int sum = 0;
            for (int judge = 0; judge < m; judge++) {
                sum += at(ranks, judge * MOST_CASES + a);
            }
            if (which == NONE || sum < fewest) {
                fewest = sum;
                which = a;
            }
        }
        return which;
    }

    private int twosAlike(int n, int m) {
        int twos = 0;
        for (int a = 0; a < n; a++) {
            for (int b = a + 1; b < n; b++) {
                if (2 * judgesFor(a, b, m) == m) {
                    twos++;
                }
            }
        }
        return twos;
    }

    public int likely(int n, int what) {
        if (!within(n, 1, 16) || !within(what, 0, 2) || !tape.holds(2 * n)) {
            return NONE;
        }
        tape.open(2 * n);
        int unbeaten = 0;
        int most = -1;
        int whose = 0;
        for (int i = 0; i < n; i++) {
            int product = tape.byteAt(2 * i) * tape.byteAt(2 * i + 1);
            if (product > most) {
                most = product;
                whose = i;
            }
            if (!isBeaten(i, n)) {
                unbeaten |= 1 << i;
            }
        }
        if (what == 0) {
            return unbeaten;
        }
        return what == 1 ? most : whose;
    }

    private boolean isBeaten(int i, int n) {
        int likely = tape.byteAt(2 * i);
        int grave = tape.byteAt(2 * i + 1);
        for (int j = 0; j < n; j++) {
            int likelier = tape.byteAt(2 * j) - likely;
            int graver = tape.byteAt(2 * j + 1) - grave;
            if (likelier >= 0 && graver >= 0 && likelier + graver > 0) {
                return true;
            }
        }
        return false;
    }

    public int share(int n, int c) {
        if (!within(n, 1, 12) || !within(c, 0, CONSTABLES - 1) || !tape.holds(2 * n)) {
            return NONE;
        }
        tape.open(2 * n);
        int pence = 0;
        for (int i = 0; i < n; i++) {
            int prize = tape.byteAt(2 * i);
            int bits = tape.byteAt(2 * i + 1);
            int parts = Integer.bitCount(bits);
            if (parts > 0 && has(bits, c)) {
                int ahead = Integer.bitCount(bits & ((1 << c) - 1));
                pence += prize / parts + (ahead < prize % parts ? 1 : 0);
            }
        }
        return pence;
    }

    public int odds(int n, int what) {
        if (!within(n, 1, 9) || !within(what, 0, 5) || !tape.holds(n)) {
            return NONE;
        }
        tape.open(n);
        int all = 1;
        int none = 1;
        int below = 1;
        for (int i = 0; i < n; i++) {
            int tenths = tape.byteAt(i);
            if (tenths > 10) {
                return NOT_SO;
            }
            all *= tenths;
            none *= 10 - tenths;
            below *= 10;
        }
        int above = below - none;
        if (what < 4) {
            above = what < 2 ? all : none;
        }
        int divisor = commonDivisor(above, below);
        return (what % 2 == 0 ? above : below) / divisor;
    }

    /** At least 1, so that it can divide. */
    private static int commonDivisor(int above, int below) {
        int a = above;
        int b = below;
        for (int turn = 0; turn < 100 && b != 0; turn++) {
            int rest = a % b;
            a = b;
            b = rest;
        }
        return Math.max(a, 1);
    }

    // ---- rows and bits

    private static boolean within(int x, int least, int most) {
        return x >= least && x <= most;
    }

    private static int clamp(int x, int least, int most) {
        return Math.max(least, Math.min(x, most));
    }

    private static boolean has(int bits, int i) {
        return within(i, 0, 31) && (bits >>> i & 1) == 1;
    }

    /** What stands in a row at a place; 0 beyond it. */
    private static int at(int[] row, int i) {
        return i >= 0 && i < row.length ? row[i] : 0;
    }

    private static void put(int[] row, int i, int value) {
        if (i >= 0 && i < row.length) {
            row[i] = value;
        }
    }

    private static int lowestOf(int bits) {
        int i = 0;
        while (i < 31 && !has(bits, i)) {
            i++;
        }
        return i;
    }

    private static int sumOf(int[] row, int bits) {
        int sum = 0;
        for (int i = 0; i < row.length; i++) {
            if (has(bits, i)) {
                sum += row[i];
            }
        }
        return sum;
    }

    /** The tape, and the text that was taken off it last with the first FAULT in it. */
    private static final class Tape {
        static final int MOST = 260;
        static final int END = -1;

        static final int CANNOT_STAND = 1;
        static final int DIGIT_TOO_MANY = 2;
        static final int ONE_TOO_MANY = 4;
        static final int TOO_DEEP = 5;
        static final int TOO_MANY_STEPS = 6;
        static final int ITSELF = 6;
        static final int NO_PLACE = 7;

        private final int[] bytes = new int[MOST];
        int size = 0;
        private int length = 0;
        private int reader = 0;
        private int fault = 0;
        private int faultAt = 0;

        void append(int four) {
            for (int shift = 24; shift >= 0; shift -= 8) {
                put(bytes, size, four >>> shift & 255);
                size++;
            }
        }

        boolean holds(int n) {
            return n <= size;
        }

        /** The first n bytes are the text to be read; the tape is empty. */
        void open(int n) {
            size = 0;
            length = n;
            reader = 0;
            fault = 0;
            faultAt = 0;
        }

        int byteAt(int i) {
            return i < length ? at(bytes, i) : 0;
        }

        int look() {
            return reader < length ? at(bytes, reader) : END;
        }

        int reader() {
            return reader;
        }

        void step() {
            reader++;
        }

        /** Behind a FAULT nothing is taken any more. */
        boolean take(int sign) {
            if (!isFine() || look() != sign) {
                fail(CANNOT_STAND);
                return false;
            }
            step();
            return true;
        }

        /** A number of at most so many digits. */
        int number(int most) {
            int value = 0;
            int digits = 0;
            while (digits <= most && isDigit(look())) {
                if (digits == most) {
                    fail(DIGIT_TOO_MANY);
                    return 0;
                }
                value = value * 10 + look() - '0';
                digits++;
                step();
            }
            if (digits == 0) {
                fail(CANNOT_STAND);
            }
            return value;
        }

        /** Whether a ; stands there, which one more must follow; else the text must be at its end. */
        boolean goesOn() {
            return look() != END && take(';');
        }

        boolean isFine() {
            return fault == 0;
        }

        void fail(int kind) {
            failAt(kind, reader);
        }

        void failAt(int kind, int where) {
            if (fault == 0) {
                fault = kind;
                faultAt = where;
            }
        }

        int answer(int good) {
            return fault == 0 ? good : -1000 * fault - faultAt;
        }

        static boolean isDigit(int sign) {
            return within(sign, '0', '9');
        }

        /** The number of the PLACE that a letter means; NONE: none. */
        static int placeOf(int sign) {
            return within(sign, 'a', 'a' + PLACES - 1) ? sign - 'a' : NONE;
        }
    }

    /** What HOURS change, and what is KEPT. */
    private static final class State {
        final int[] temptation = new int[PLACES];
        final int[] gravity = new int[PLACES];
        final int[] since = new int[PLACES];
        final int[] where = new int[CONSTABLES];
        final int[] wage = new int[CONSTABLES];
        int force = 0;
        int deducted = 0;
        int crimes = 0;
        int hour = 0;
        int x = 1;

        void copy(State from) {
            for (int p = 0; p < PLACES; p++) {
                put(temptation, p, at(from.temptation, p));
                put(gravity, p, at(from.gravity, p));
                put(since, p, at(from.since, p));
            }
            for (int c = 0; c < CONSTABLES; c++) {
                put(where, c, at(from.where, c));
                put(wage, c, at(from.wage, c));
            }
            force = from.force;
            deducted = from.deducted;
            crimes = from.crimes;
            hour = from.hour;
            x = from.x;
        }

        boolean isTold(int c) {
            return within(c, 0, CONSTABLES - 1) && has(force, c);
        }

        /** The CONSTABLES at a PLACE (bits). */
        int standAt(int p) {
            int bits = 0;
            for (int c = 0; c < CONSTABLES; c++) {
                if (isTold(c) && at(where, c) == p) {
                    bits |= 1 << c;
                }
            }
            return bits;
        }

        /** The PLACES at which CONSTABLES are (bits). */
        int stoodAt() {
            int bits = 0;
            for (int c = 0; c < CONSTABLES; c++) {
                if (isTold(c)) {
                    bits |= 1 << at(where, c);
                }
            }
            return bits;
        }

        int wages() {
            return sumOf(wage, force);
        }

        int draw() {
            x = 25173 * x + 13849 & 65535;
            return x % 10;
        }
    }

    /** The STEPS of one CONSTABLE. */
    private static final class Beat {
        static final int MOST_BYTES = 60;
        static final int MOST_STEPS = 48;
        static final int MOST_OPEN = 2;
        static final int STAY = -1;

        private final int[] steps = new int[MOST_STEPS];
        int size = 0;

        /** The PLACE to go to at an hour, or STAY. */
        int stepAt(int hour) {
            return size > 0 ? at(steps, Math.floorMod(hour, size)) : STAY;
        }

        void read(Tape text) {
            size = 0;
            items(text, 0);
            if (text.isFine() && text.look() != Tape.END) {
                text.fail(Tape.CANNOT_STAND);
            }
        }

        /** STEPS up to the end or a ), at least one. */
        private void items(Tape text, int open) {
            boolean more = true;
            for (int turn = 0; more && turn < MOST_BYTES; turn++) {
                item(text, open);
                more = text.isFine() && text.look() != Tape.END && text.look() != ')';
            }
        }

        private void item(Tape text, int open) {
            int first = text.reader();
            int from = size;
            int times = 1;
            if (within(text.look(), '2', '9')) {
                times = text.look() - '0';
                text.step();
            }
            int sign = text.look();
            if (sign == '(') {
                group(text, open);
                repeat(text, from, times - 1, first);
            } else if (sign == '.' || Tape.placeOf(sign) != NONE) {
                if (size >= MOST_STEPS) {
                    text.failAt(Tape.TOO_MANY_STEPS, first);
                    return;
                }
                put(steps, size, sign == '.' ? STAY : Tape.placeOf(sign));
                size++;
                text.step();
                repeat(text, from, times - 1, first);
            } else {
                text.fail(Tape.CANNOT_STAND);
            }
        }

        private void group(Tape text, int open) {
            if (open >= MOST_OPEN) {
                text.fail(Tape.TOO_DEEP);
                return;
            }
            text.step();
            items(text, open + 1);
            text.take(')');
        }

        /** The STEPS from one on so many times more. */
        private void repeat(Tape text, int from, int more, int first) {
            int row = size - from;
            if (!text.isFine()) {
                return;
            }
            if (size + row * more > MOST_STEPS) {
                text.failAt(Tape.TOO_MANY_STEPS, first);
                return;
            }
            for (int i = 0; i < row * more; i++) {
                put(steps, size, at(steps, size - row));
                size++;
            }
        }
    }

    /** LINES that are read whole before any is granted. */
    private static final class Petition {
        static final int MOST_BYTES = 120;
        static final int MOST_LINES = 20;

        private final int[] places = new int[MOST_LINES];
        private final int[] signs = new int[MOST_LINES];
        private final int[] values = new int[MOST_LINES];
        int lines = 0;

        void read(Tape text, Borough borough) {
            lines = 0;
            boolean more = true;
            for (int turn = 0; more && turn < MOST_BYTES; turn++) {
                line(text, borough);
                more = text.goesOn();
            }
        }

        private void line(Tape text, Borough borough) {
            int p = Tape.placeOf(text.look());
            if (p == NONE) {
                text.fail(Tape.CANNOT_STAND);
            } else if (lines >= MOST_LINES) {
                text.fail(Tape.ONE_TOO_MANY);
            } else if (!borough.isTold(p)) {
                text.fail(Tape.NO_PLACE);
            }
            if (!text.isFine()) {
                return;
            }
            text.step();
            int sign = text.look();
            if (!isSign(sign)) {
                text.fail(Tape.CANNOT_STAND);
                return;
            }
            text.step();
            int value = sign == '&' || sign == '/' ? other(text, borough, p) : text.number(sign == '=' ? 3 : 2);
            put(places, lines, p);
            put(signs, lines, sign);
            put(values, lines, value);
            lines++;
        }

        private static boolean isSign(int sign) {
            return sign == '+' || sign == '-' || sign == '=' || sign == '&' || sign == '/';
        }

        private static int other(Tape text, Borough borough, int p) {
            int q = Tape.placeOf(text.look());
            if (q == NONE) {
                text.fail(Tape.CANNOT_STAND);
            } else if (q == p) {
                text.fail(Tape.ITSELF);
            } else if (!borough.isTold(q)) {
                text.fail(Tape.NO_PLACE);
            } else {
                text.step();
            }
            return q;
        }

        void grant(State now, Borough borough) {
            for (int i = 0; i < lines; i++) {
                int p = at(places, i);
                int value = at(values, i);
                int temptation = at(now.temptation, p);
                switch (at(signs, i)) {
                    case '+': put(now.temptation, p, clamp(temptation + value, 0, MOST_TEMPTATION)); break;
                    case '-': put(now.temptation, p, clamp(temptation - value, 0, MOST_TEMPTATION)); break;
                    case '=': put(now.gravity, p, value); break;
                    case '&': borough.join(p, value); break;
                    default: borough.part(p, value); break;
                }
            }
        }
    }

    /** RULES as rows of orders: each puts on a stack, or reckons with what lies on top of it. */
    private static final class Law {
        static final int MOST_BYTES = 240;
        static final int MOST_RULES = 16;
        static final int MOST_OPEN = 6;
        static final int MOST_DIGITS = 5;
        static final int LETTERS = 8;

        private static final int NUMBER = 1;
        private static final int LETTER = 2;
        private static final int NOT = 3;
        /** What follows an & matters only behind what holds, what follows a | only behind what does not. */
        private static final int IF_SO = 4;
        private static final int IF_NOT = 5;

        // each order stands for a sign of the text at least
        private final int[] orders = new int[MOST_BYTES];
        private final int[] values = new int[MOST_BYTES];
        private final int[] kinds = new int[MOST_RULES];
        private final int[] sums = new int[MOST_RULES];
        private final int[] claims = new int[MOST_RULES];
        private final int[] ends = new int[MOST_RULES];
        private final int[] stack = new int[MOST_BYTES];
        private int size = 0;
        private boolean refused = false;
        int rules = 0;

        // ---- reading

        void read(Tape text) {
            size = 0;
            rules = 0;
            boolean more = true;
            for (int turn = 0; more && turn < MOST_BYTES; turn++) {
                rule(text);
                more = text.goesOn();
            }
        }

        private void rule(Tape text) {
            int kind = text.look();
            if (kind != 'w' && kind != 'r' && kind != 's') {
                text.fail(Tape.CANNOT_STAND);
                return;
            }
            if (rules >= MOST_RULES) {
                text.fail(Tape.ONE_TOO_MANY);
                return;
            }
            text.step();
            put(kinds, rules, kind);
            put(sums, rules, size);
            if (kind != 's') {
                sum(text, 0);
            }
            put(claims, rules, size);
            if (text.take('(')) {
                anyOf(text, 1);
                text.take(')');
            }
            put(ends, rules, size);
            rules++;
        }

        /** Whether one more of ( [ ! can be opened in so many; it is stepped over. */
        private static boolean opens(Tape text, int open) {
            if (open >= MOST_OPEN) {
                text.fail(Tape.TOO_DEEP);
                return false;
            }
            text.step();
            return true;
        }

        private void anyOf(Tape text, int open) {
            allOf(text, open);
            for (int turn = 0; turn < MOST_BYTES && text.isFine() && text.look() == '|'; turn++) {
                text.step();
                int jump = order(IF_NOT, 0);
                allOf(text, open);
                put(values, jump, size);
            }
        }

        private void allOf(Tape text, int open) {
            test(text, open);
            for (int turn = 0; turn < MOST_BYTES && text.isFine() && text.look() == '&'; turn++) {
                text.step();
                int jump = order(IF_SO, 0);
                test(text, open);
                put(values, jump, size);
            }
        }

        private void test(Tape text, int open) {
            int sign = text.look();
            if (sign == '!') {
                if (opens(text, open)) {
                    test(text, open + 1);
                    order(NOT, 0);
                }
            } else if (sign == '(') {
                if (opens(text, open)) {
                    anyOf(text, open + 1);
                    text.take(')');
                }
            } else {
                sum(text, open);
                int comparison = text.look();
                if (comparison == '<' || comparison == '>' || comparison == '=') {
                    text.step();
                    sum(text, open);
                    order(comparison, 0);
                } else {
                    text.fail(Tape.CANNOT_STAND);
                }
            }
        }

        private void sum(Tape text, int open) {
            term(text, open);
            for (int turn = 0; turn < MOST_BYTES && text.isFine(); turn++) {
                int sign = text.look();
                if (sign != '+' && sign != '-') {
                    return;
                }
                text.step();
                term(text, open);
                order(sign, 0);
            }
        }

        private void term(Tape text, int open) {
            factor(text, open);
            for (int turn = 0; turn < MOST_BYTES && text.isFine(); turn++) {
                int sign = text.look();
                if (sign != '*' && sign != '/' && sign != '%') {
                    return;
                }
                text.step();
                factor(text, open);
                order(sign, 0);
            }
        }

        private void factor(Tape text, int open) {
            int sign = text.look();
            if (sign == '[') {
                if (opens(text, open)) {
                    sum(text, open + 1);
                    text.take(']');
                }
            } else if (Tape.isDigit(sign)) {
                order(NUMBER, text.number(MOST_DIGITS));
            } else if (letterOf(sign) != NONE) {
                order(LETTER, letterOf(sign));
                text.step();
            } else {
                text.fail(Tape.CANNOT_STAND);
            }
        }

        private static int letterOf(int sign) {
            switch (sign) {
                case 'p': return 0;
                case 't': return 1;
                case 'g': return 2;
                case 'c': return 3;
                case 'n': return 4;
                case 'l': return 5;
                case 'h': return 6;
                case 'd': return 7;
                default: return NONE;
            }
        }

        private int order(int what, int value) {
            put(orders, size, what);
            put(values, size, value);
            size++;
            return size - 1;
        }

        // ---- asking

        boolean isSafe(int[] known) {
            for (int i = 0; i < rules; i++) {
                if (at(kinds, i) == 's' && reckoned(at(claims, i), at(ends, i), known) != 0) {
                    return true;
                }
            }
            return false;
        }

        /** What the first RULE of a kind that holds says, 0 to so much. */
        int rate(int kind, int most, int[] known) {
            for (int i = 0; i < rules; i++) {
                if (at(kinds, i) == kind && reckoned(at(claims, i), at(ends, i), known) != 0) {
                    return clamp(reckoned(at(sums, i), at(claims, i), known), 0, most);
                }
            }
            return 0;
        }

        /** What the orders come to; 0 if one of them is REFUSED. */
        private int reckoned(int from, int end, int[] known) {
            int height = 0;
            int next = from;
            refused = false;
            for (int turn = 0; turn < MOST_BYTES && next < end && !refused; turn++) {
                int what = at(orders, next);
                int value = at(values, next);
                int top = at(stack, height - 1);
                next++;
                if (what == NUMBER || what == LETTER) {
                    put(stack, height, what == NUMBER ? value : at(known, value));
                    height++;
                } else if (what == NOT) {
                    put(stack, height - 1, top == 0 ? 1 : 0);
                } else if (what == IF_SO || what == IF_NOT) {
                    boolean matters = (what == IF_SO) == (top != 0);
                    height -= matters ? 1 : 0;
                    next = matters ? next : value;
                } else {
                    height--;
                    put(stack, height - 1, joined(what, at(stack, height - 1), top));
                }
            }
            return refused ? 0 : at(stack, height - 1);
        }

        private int joined(int sign, int left, int right) {
            if (right == 0 && (sign == '/' || sign == '%')) {
                refused = true;
                return 0;
            }
            switch (sign) {
                case '<': return left < right ? 1 : 0;
                case '>': return left > right ? 1 : 0;
                case '=': return left == right ? 1 : 0;
                case '+': return left + right;
                case '-': return left - right;
                case '*': return left * right;
                case '/': return right == 0 ? 0 : left / right;
                case '%': return right == 0 ? 0 : left % right;
                default: return left;
            }
        }
    }

    /** Lets an HOUR go by. */
    private static final class Shift {
        private final int[] crowd = new int[PLACES];
        private final int[] known = new int[Law.LETTERS];
        /** Of the last HOUR: crimes, pence. */
        int done = 0;
        int paid = 0;

        /** False: none goes by any more. */
        boolean passes(State state, Law law, Borough borough, Beat[] beats) {
            done = 0;
            paid = 0;
            if (state.hour >= LAST_HOUR) {
                return false;
            }
            walk(state, borough, beats);
            lookAround(state, borough);
            for (int p = 0; p < PLACES; p++) {
                if (borough.isTold(p)) {
                    know(state, p, at(borough.next, p));
                    tempt(state, law, p);
                }
            }
            state.hour++;
            return true;
        }

        private static void walk(State state, Borough borough, Beat[] beats) {
            for (int c = 0; c < beats.length; c++) {
                Beat own = beats[c];
                if (own != null && state.isTold(c)) {
                    int to = own.stepAt(state.hour);
                    if (borough.isTold(to) && has(at(borough.next, at(state.where, c)), to)) {
                        put(state.where, c, to);
                    }
                }
            }
        }

        private void lookAround(State state, Borough borough) {
            for (int p = 0; p < crowd.length; p++) {
                crowd[p] = 0;
            }
            for (int c = 0; c < CONSTABLES; c++) {
                if (state.isTold(c)) {
                    int p = at(state.where, c);
                    put(crowd, p, at(crowd, p) + 1);
                }
            }
            for (int p = 0; p < PLACES; p++) {
                if (borough.isTold(p)) {
                    int longer = Math.min(at(state.since, p) + 1, MOST_SINCE);
                    put(state.since, p, at(crowd, p) > 0 ? 0 : longer);
                }
            }
        }

        /** In the order of Law's letters. */
        private void know(State state, int p, int near) {
            put(known, 0, p);
            put(known, 1, at(state.temptation, p));
            put(known, 2, at(state.gravity, p));
            put(known, 3, at(crowd, p));
            put(known, 4, sumOf(crowd, near));
            put(known, 5, at(state.since, p));
            put(known, 6, state.hour % 24);
            put(known, 7, state.crimes);
        }

        private void tempt(State state, Law law, int p) {
            if (law.isSafe(known)) {
                return;
            }
            int tenths = law.rate('r', MOST_TENTHS, known);
            boolean isTempted = state.draw() < tenths;
            if (at(crowd, p) > 0) {
                pay(state, p, law.rate('w', MOST_WAGE, known));
            } else if (isTempted) {
                done++;
                state.crimes = Math.min(state.crimes + 1, MOST_CRIMES);
                state.deducted = Math.min(state.deducted + at(state.gravity, p), MOST_PENCE);
            }
        }

        private void pay(State state, int p, int pence) {
            for (int c = 0; c < CONSTABLES; c++) {
                if (state.isTold(c) && at(state.where, c) == p) {
                    put(state.wage, c, Math.min(at(state.wage, c) + pence, MOST_PENCE));
                    paid += pence;
                }
            }
        }
    }

    /** Which PLACES are told, and which are NEXT to each other. */
    private static final class Borough {
        int told = 0;
        final int[] next = new int[PLACES];
        private final int[] steps = new int[PLACES];
        private final int[] tally = new int[PLACES];

        boolean isTold(int p) {
            return within(p, 0, PLACES - 1) && has(told, p);
        }

        void join(int p, int q) {
            put(next, p, at(next, p) | 1 << q);
            put(next, q, at(next, q) | 1 << p);
        }

        void part(int p, int q) {
            put(next, p, at(next, p) & ~(1 << q));
            put(next, q, at(next, q) & ~(1 << p));
        }

        /** A PLACE and those NEXT to it (bits). */
        int around(int p) {
            return at(next, p) | 1 << p;
        }

        int aroundAny(int places) {
            int bits = 0;
            for (int p = 0; p < PLACES; p++) {
                if (has(places, p)) {
                    bits |= around(p);
                }
            }
            return bits;
        }

        /** Steps from a PLACE to each, for stepsTo and stepTowards. */
        void measure(int from) {
            for (int p = 0; p < steps.length; p++) {
                steps[p] = NONE;
            }
            int reached = 1 << from;
            int edge = reached;
            for (int far = 0; far < PLACES && edge != 0; far++) {
                for (int p = 0; p < PLACES; p++) {
                    if (has(edge, p)) {
                        put(steps, p, far);
                    }
                }
                edge = aroundAny(edge) & ~reached;
                reached |= edge;
            }
        }

        /** NONE: there is no way. */
        int stepsTo(int p) {
            return within(p, 0, PLACES - 1) ? at(steps, p) : NONE;
        }

        /** The PLACE behind so many steps from p to where it was measured from, always the lowest that leads on. */
        int stepTowards(int p, int many) {
            int here = p;
            for (int i = 0; i < many && i < PLACES; i++) {
                here = lowestCloser(here);
            }
            return here;
        }

        private int lowestCloser(int p) {
            for (int q = 0; q < PLACES; q++) {
                if (has(at(next, p), q) && stepsTo(q) == stepsTo(p) - 1) {
                    return q;
                }
            }
            return p;
        }

        int shortestWays(int p, int q) {
            measure(p);
            for (int i = 0; i < tally.length; i++) {
                tally[i] = i == p ? 1 : 0;
            }
            for (int far = 1; far < PLACES; far++) {
                for (int to = 0; to < PLACES; to++) {
                    if (stepsTo(to) == far) {
                        put(tally, to, waysFromCloser(to, far));
                    }
                }
            }
            return at(tally, q);
        }

        private int waysFromCloser(int to, int far) {
            int sum = 0;
            for (int p = 0; p < PLACES; p++) {
                if (has(at(next, to), p) && stepsTo(p) == far - 1) {
                    sum += at(tally, p);
                }
            }
            return sum;
        }

        int lanesInAll() {
            int ends = 0;
            for (int p = 0; p < PLACES; p++) {
                ends += Integer.bitCount(at(next, p));
            }
            return ends / 2;
        }

        int bridgesInAll() {
            int bridges = 0;
            for (int p = 0; p < PLACES; p++) {
                for (int q = p + 1; q < PLACES; q++) {
                    if (isBridge(p, q)) {
                        bridges++;
                    }
                }
            }
            return bridges;
        }

        /** The lower PLACE times PLACES, and the other one; NONE: none. */
        int firstBridge() {
            for (int p = 0; p < PLACES; p++) {
                for (int q = p + 1; q < PLACES; q++) {
                    if (isBridge(p, q)) {
                        return p * PLACES + q;
                    }
                }
            }
            return NONE;
        }

        private boolean isBridge(int p, int q) {
            if (!has(at(next, p), q)) {
                return false;
            }
            part(p, q);
            measure(p);
            join(p, q);
            return stepsTo(q) == NONE;
        }

        int fewestPosts() {
            int bits = NONE;
            for (int many = 0; many <= PLACES && bits == NONE; many++) {
                bits = leastPosts(this, 0, told, many);
            }
            return bits;
        }

        /** The least bits with at most so many PLACES more that watch what is unwatched; NONE: so many can't. */
        private static int leastPosts(Borough borough, int chosen, int unwatched, int many) {
            if (unwatched == 0) {
                return chosen;
            }
            if (many <= 0) {
                return NONE;
            }
            // one of those around a PLACE must watch it
            int around = borough.around(lowestOf(unwatched));
            int least = NONE;
            for (int p = 0; p < PLACES; p++) {
                if (has(around, p)) {
                    int bits = leastPosts(borough, chosen | 1 << p, unwatched & ~borough.around(p), many - 1);
                    if (bits != NONE && (least == NONE || bits < least)) {
                        least = bits;
                    }
                }
            }
            return least;
        }
    }

    /** Watches so that neighbours never sleep at once. */
    private static final class Rota {
        /** The PLACES (bits) of each watch. */
        private final int[] members = new int[PLACES];

        int fewest(Borough borough) {
            for (int w = 0; w < members.length; w++) {
                members[w] = 0;
            }
            int many = 0;
            while (many < PLACES && !canFill(members, borough.next, borough.told, many)) {
                many++;
            }
            return many;
        }

        /** The watch of a PLACE in the least row of so many watches, asked behind fewest. */
        int watchOf(int place, int many, Borough borough) {
            int left = borough.told;
            int watch = NONE;
            for (int p = 0; p <= place && p < PLACES; p++) {
                if (has(left, p)) {
                    left &= ~(1 << p);
                    watch = leastWatch(p, left, many, borough.next);
                    put(members, watch, at(members, watch) | 1 << p);
                }
            }
            return watch;
        }

        private int leastWatch(int p, int left, int many, int[] next) {
            for (int w = 0; w < many; w++) {
                int before = at(members, w);
                if ((before & at(next, p)) == 0) {
                    put(members, w, before | 1 << p);
                    boolean can = canFill(members, next, left, many);
                    put(members, w, before);
                    if (can) {
                        return w;
                    }
                }
            }
            return NONE;
        }

        /** Whether the PLACES that are left can have watches, too, one a level; the watches stay as they are. */
        private static boolean canFill(int[] members, int[] next, int left, int many) {
            if (left == 0) {
                return true;
            }
            int p = tightest(members, next, left, many);
            for (int w = 0; w < many; w++) {
                int before = at(members, w);
                if ((before & at(next, p)) == 0) {
                    put(members, w, before | 1 << p);
                    boolean can = canFill(members, next, left & ~(1 << p), many);
                    put(members, w, before);
                    // one empty watch is as good as another
                    if (can || before == 0) {
                        return can;
                    }
                }
            }
            return false;
        }

        /** Of the PLACES that are left the one with the fewest watches to choose from. */
        private static int tightest(int[] members, int[] next, int left, int many) {
            int which = lowestOf(left);
            int fewest = PLACES + 1;
            for (int p = 0; p < PLACES; p++) {
                if (has(left, p)) {
                    int free = freeWatches(members, at(next, p), many);
                    if (free < fewest) {
                        fewest = free;
                        which = p;
                    }
                }
            }
            return which;
        }

        private static int freeWatches(int[] members, int near, int many) {
            int free = 0;
            for (int w = 0; w < many; w++) {
                if ((at(members, w) & near) == 0) {
                    free++;
                }
            }
            return free;
        }
    }

    /** The walks from a PLACE, by the PLACES at which they were. */
    private static final class Walks {
        static final int MOST_STEPS = 8;
        private static final int LOW = 65535;

        /** By the PLACES that were visited (bits): where the walks end now; in the high half where the next step ends. */
        private final int[] ends = new int[1 << PLACES];
        // a walk that can still go home has been at 8 PLACES at most, its first one always among them: sum of C(15, 0 to 7)
        private final int[] visited = new int[1 << 14];
        private int size = 0;

        /** The PLACES (bits) of the best walk of k steps from p back to it. */
        int best(int p, int k, int[] temptation, Borough borough) {
            size = 0;
            add(1 << p, 1 << p);
            settle();
            for (int step = 1; step < k && step < MOST_STEPS; step++) {
                goOn(borough);
                settle();
            }
            int best = NONE;
            int most = NONE;
            for (int i = 0; i < size; i++) {
                int bits = at(visited, i);
                boolean goesHome = (at(ends, bits) & borough.around(p)) != 0;
                int sum = goesHome ? sumOf(temptation, bits) : NONE;
                if (goesHome && (sum > most || sum == most && bits < best)) {
                    best = bits;
                    most = sum;
                }
                put(ends, bits, 0);
            }
            return best;
        }

        private void goOn(Borough borough) {
            int before = size;
            for (int i = 0; i < before; i++) {
                int bits = at(visited, i);
                int reach = borough.aroundAny(at(ends, bits) & LOW);
                for (int q = 0; q < PLACES; q++) {
                    if (has(reach, q)) {
                        add(bits | 1 << q, 1 << q);
                    }
                }
            }
        }

        private void add(int bits, int end) {
            int known = at(ends, bits);
            if (known == 0) {
                put(visited, size, bits);
                size++;
            }
            put(ends, bits, known | end << 16);
        }

        private void settle() {
            for (int i = 0; i < size; i++) {
                int bits = at(visited, i);
                int both = at(ends, bits);
                put(ends, bits, (both | both >>> 16) & LOW);
            }
        }
    }
}
