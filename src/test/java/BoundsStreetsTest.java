/** The bounds of promises 10, 11, 16 to 23 and 33. Each method is a sentence of the document. */
public final class BoundsStreetsTest {
    private static final Due due = new Due();

    public static void main(String[] args) {
        placeIsWhat();
        constableIsWhat();
        waysBounds();
        waysNoneAndTheSame();
        wayBounds();
        wayOfTheSame();
        wayNoneAndNoSuchPlace();
        wayIsTheLeastRow();
        worstBounds();
        postsBounds();
        postsEmptyAndFull();
        postsAreTheLeastBits();
        roundBounds();
        roundOfEachLength();
        roundCountsEachOnce();
        roundIsTheLeastBits();
        lanesBounds();
        lanesEmptyAndFull();
        bridgesAreThoseWithoutWhich();
        firstBridge();
        watchesBounds();
        watchesEmptyAndFull();
        watchesAreTheLeastRow();
        watchesOfOtherLanes();
        nearestBounds();
        nearestOfLikeOnes();
        countBounds();
        askedChangesNothing();
        due.tell();
    }

    /** Places a, b .. of temptation 1, 2, 4 .. with lanes such as "ab bc". */
    private static IdleCrimes town(int n, String lanes) {
        IdleCrimes x = new IdleCrimes();
        for (int p = 0; p < n; p++) {
            x.place(p, p < 7 ? 1 << p : 0, 1);
        }
        for (String lane : lanes.isEmpty() ? new String[0] : lanes.split(" ")) {
            Due.pleas(x, lane.charAt(0) + "&" + lane.charAt(1));
        }
        return x;
    }

    private static String row(int n) {
        StringBuilder lanes = new StringBuilder();
        for (int p = 1; p < n; p++) {
            lanes.append(p == 1 ? "" : " ").append((char) ('a' + p - 1)).append((char) ('a' + p));
        }
        return lanes.toString();
    }

    private static IdleCrimes full() {
        IdleCrimes x = town(16, "");
        for (int p = 0; p < 16; p++) {
            for (int q = p + 1; q < 16; q++) {
                Due.pleas(x, "" + (char) ('a' + p) + '&' + (char) ('a' + q));
            }
        }
        return x;
    }

    private static void placeIsWhat() {
        due.promise("Of a told PLACE, what 0 .. 4; NONE for others");
        IdleCrimes x = town(3, "ab");
        x.place(1, 42, 43);
        x.constable(6, 1);
        x.hours(2);
        due.bounds("what", what -> x.placeIs(1, what), 0, 42, 4, 1, -1);
        due.is("what 1", x.placeIs(1, 1), 43);
        due.is("what 2", x.placeIs(0, 2), 2);
        due.is("what 3", x.placeIs(1, 3), 64);
        due.is("not told", x.placeIs(3, 0), -1);
        due.bounds("place", p -> x.placeIs(p, 2), 0, 2, 2, 2, -1);
    }

    private static void constableIsWhat() {
        due.promise("Of a told CONSTABLE, what 0 PLACE, 1 WAGE, 2 STEPS of his BEAT; NONE for others");
        IdleCrimes x = town(3, "");
        x.constable(1, 2);
        Due.beat(x, 1, "ab");
        Due.law(x, "w3(1=1)");
        x.hours(2);
        due.bounds("what", what -> x.constableIs(1, what), 0, 2, 2, 2, -1);
        due.is("what 1", x.constableIs(1, 1), 6);
        due.is("not told", x.constableIs(0, 0), -1);
        due.is("not told above", x.constableIs(2, 2), -1);
    }

    // ---- ways

    private static void waysBounds() {
        due.promise("In how many ways .. from a told PLACE to a told one; NONE: no such ones");
        IdleCrimes x = town(16, row(16));
        due.bounds("p", p -> x.ways(p, 3), 0, 1, 15, 1, -1);
        due.bounds("q", q -> x.ways(3, q), 0, 1, 15, 1, -1);
        IdleCrimes y = town(3, "ab bc");
        due.is("p is not told", y.ways(3, 0), -1);
        due.is("q is not told", y.ways(0, 3), -1);
        due.is("the same, not told", y.ways(3, 3), -1);
    }

    private static void waysNoneAndTheSame() {
        due.promise("(none: 0; the same: 1)");
        IdleCrimes x = town(4, "ab bc");
        due.is("none", x.ways(0, 3), 0);
        due.is("none, back", x.ways(3, 0), 0);
        due.is("the same", x.ways(1, 1), 1);
        due.is("the same, alone", x.ways(3, 3), 1);
        due.is("one step", x.ways(0, 1), 1);
        // layers of three behind a
        StringBuilder lanes = new StringBuilder("ab ac ad");
        for (int p = 1; p <= 10; p += 3) {
            for (int i = p; i < p + 3; i++) {
                for (int j = p + 3; j < p + 6; j++) {
                    lanes.append(' ').append((char) ('a' + i)).append((char) ('a' + Math.min(j, 15)));
                }
            }
        }
        due.is("3 * 3 * 3 * 3", town(16, lanes.toString()).ways(0, 13), 81);
        due.is("a shorter one", town(16, lanes + " np op pb").ways(0, 15), 1);
        due.is("as short as can be alone", town(4, "ab bd ac cd ad").ways(0, 3), 1);
        due.is("all next to all", full().ways(0, 15), 1);
    }

    private static void wayBounds() {
        due.promise("what 100 steps, else the PLACE at place what (0 to 15; the first one at 0); NONE: no such ones");
        IdleCrimes x = town(16, row(16));
        due.bounds("what", what -> what == 100 ? -1 : x.way(0, 15, what), 0, 0, 15, 15, -1);
        due.is("steps", x.way(0, 15, 100), 15);
        due.is("what 99", x.way(0, 15, 99), -1);
        due.is("what 101", x.way(0, 15, 101), -1);
        due.bounds("p", p -> x.way(p, 3, 100), 0, 3, 15, 12, -1);
        due.bounds("q", q -> x.way(3, q, 100), 0, 3, 15, 12, -1);
        IdleCrimes y = town(3, "ab bc");
        due.is("p is not told", y.way(3, 0, 0), -1);
        due.is("q is not told", y.way(0, 3, 0), -1);
    }

    private static void wayOfTheSame() {
        due.promise("steps from one PLACE to another one: the same");
        IdleCrimes x = town(2, "ab");
        due.is("no steps", x.way(1, 1, 100), 0);
        due.is("the first", x.way(1, 1, 0), 1);
        due.is("no second", x.way(1, 1, 1), -4);
    }

    private static void wayNoneAndNoSuchPlace() {
        due.promise("-2: none; -4: no such place; NONE told first, then -2, then -4");
        IdleCrimes x = town(4, "ab bc");
        due.is("the last", x.way(0, 2, 2), 2);
        due.is("behind the last", x.way(0, 2, 3), -4);
        due.is("place 15", x.way(0, 2, 15), -4);
        due.is("place 16", x.way(0, 2, 16), -1);
        due.is("none", x.way(0, 3, 100), -2);
        due.is("none at 0", x.way(0, 3, 0), -2);
        due.is("none at 15, ahead of -4", x.way(0, 3, 15), -2);
        due.is("NONE ahead of -2", x.way(0, 3, 16), -1);
        due.is("NONE ahead of it, too", x.way(3, 4, 0), -1);
    }

    private static void wayIsTheLeastRow() {
        due.promise("the PLACE at a place of it (of like ones the least row)");
        IdleCrimes x = town(8, "ac ad cg dh ae eb gf hf bf");
        // a c g f, a d h f, a e b f
        int[] there = {0, 2, 6, 5};
        int[] back = {5, 1, 4, 0};
        for (int i = 0; i < 4; i++) {
            due.is("there " + i, x.way(0, 5, i), there[i]);
            due.is("back " + i, x.way(5, 0, i), back[i]);
        }
    }

    private static void worstBounds() {
        due.promise("WORST; -2: no PLACE is told");
        due.is("none", new IdleCrimes().worst(), -2);
        IdleCrimes x = new IdleCrimes();
        x.place(15, 0, 0);
        due.is("of 0", x.worst(), 15);
        x.place(3, 99, 0);
        due.is("of like ones the lowest, of 0", x.worst(), 3);
        x.place(9, 1, 1);
        due.is("of 1", x.worst(), 9);
        x.place(15, 99, 999);
        due.is("the greatest that can be", x.worst(), 15);
        x.place(14, 99, 999);
        due.is("the lowest of them", x.worst(), 14);
        x.place(0, 98, 999);
        due.is("one less", x.worst(), 14);
        x.place(0, 99, 999);
        due.is("a, the lowest of all", x.worst(), 0);
        x.place(0, 99, 998);
        due.is("a no longer", x.worst(), 14);
    }

    // ---- posts

    private static void postsBounds() {
        due.promise("POSTS, what 0 how many .., 1 which (bits); NONE: no such what");
        IdleCrimes x = town(3, "");
        due.bounds("what", what -> x.posts(what), 0, 3, 1, 7, -1);
    }

    private static void postsEmptyAndFull() {
        due.promise("(no PLACES: 0)");
        due.is("how many", new IdleCrimes().posts(0), 0);
        due.is("which", new IdleCrimes().posts(1), 0);
        due.is("one", town(1, "").posts(1), 1);
        due.is("sixteen alone", town(16, "").posts(0), 16);
        due.is("all of them", town(16, "").posts(1), 0xFFFF);
        due.is("all next to all", full().posts(1), 1);
        IdleCrimes x = new IdleCrimes();
        x.place(15, 1, 1);
        due.is("p alone", x.posts(1), 0x8000);
    }

    private static void postsAreTheLeastBits() {
        due.promise("the fewest told PLACES so that each told one is one of them or NEXT to one; of like ones the least bits");
        due.is("two", town(2, "ab").posts(1), 1);
        due.is("three in a row", town(3, "ab bc").posts(1), 2);
        due.is("four in a row: a c, a d, b c, b d", town(4, "ab bc cd").posts(1), 5);
        due.is("five in a row: a d, b d, b e", town(5, "ab bc cd de").posts(1), 9);
        due.is("a ring of five", town(5, "ab bc cd de ea").posts(1), 5);
        due.is("fewest ahead of least", town(5, "ea eb ec ed").posts(1), 16);
        due.is("the last of all", town(16, "ap bp cp dp ep fp gp hp ip jp kp lp mp np op").posts(1), 0x8000);
        due.is("the last but one", town(16, "ap bp cp dp ep fp gp ho io jo ko lo mo no").posts(1), 0xC000);
    }

    // ---- rounds

    private static void roundBounds() {
        due.promise("A ROUND from a told PLACE of k steps (1 to 8), what 0 TEMPTATION, 1 PLACES (bits); NONE: no such ones");
        IdleCrimes x = town(16, row(16));
        due.bounds("p", p -> x.round(p, 1, 1), 0, 1, 15, 0x8000, -1);
        due.bounds("k", k -> x.round(0, k, 1), 1, 1, 8, 31, -1);
        due.bounds("what", what -> x.round(0, 2, what), 0, 3, 1, 3, -1);
        due.is("not told", town(3, "").round(3, 1, 0), -1);
    }

    private static void roundOfEachLength() {
        due.promise("k steps (.. each to a PLACE NEXT to it, or staying) from a PLACE back to it");
        int[] bits = {1, 3, 3, 7, 7, 15, 15, 31};
        for (int k = 1; k <= 8; k++) {
            due.is("a row, " + k + " steps", town(7, row(7)).round(0, k, 1), bits[k - 1]);
            due.is("its temptation", town(7, row(7)).round(0, k, 0), bits[k - 1]);
            due.is("alone, " + k + " steps", town(1, "").round(0, k, 1), 1);
        }
        int[] ring = {1, 65, 65, 97, 97, 113, 127, 127};
        for (int k = 1; k <= 8; k++) {
            due.is("a ring of seven, " + k + " steps", town(7, row(7) + " ga").round(0, k, 1), ring[k - 1]);
        }
        IdleCrimes x = full();
        for (int p = 0; p < 16; p++) {
            x.place(p, 99, 1);
        }
        for (int k = 1; k <= 8; k++) {
            due.is("all next to all, " + k + " steps", x.round(0, k, 0), 99 * k);
            due.is("the least of them", x.round(0, k, 1), (1 << k) - 1);
        }
    }

    private static void roundCountsEachOnce() {
        due.promise("the most TEMPTATION of the PLACES at which it is, each once");
        IdleCrimes x = town(2, "ab");
        x.place(0, 99, 1);
        x.place(1, 98, 1);
        due.is("to and fro", x.round(0, 8, 0), 197);
        due.is("just to and fro", x.round(0, 2, 0), 197);
        due.is("not so far", x.round(0, 1, 0), 99);
        x.place(1, 0, 1);
        due.is("what tempts not", x.round(0, 8, 1), 1);
        due.is("from there", x.round(1, 8, 1), 3);
    }

    private static void roundIsTheLeastBits() {
        due.promise("PLACES (bits; of like ones the least bits)");
        IdleCrimes x = town(8, "hg ha hb hc");
        for (int p = 0; p < 8; p++) {
            x.place(p, 5, 1);
        }
        due.is("one of four", x.round(7, 2, 1), 0x81);
        due.is("two of four", x.round(7, 4, 1), 0x83);
        due.is("three of four", x.round(7, 6, 1), 0x87);
        due.is("all four", x.round(7, 8, 1), 0xC7);
        x.place(6, 6, 1);
        due.is("more ahead of the least", x.round(7, 2, 1), 0xC0);
        for (int p = 0; p < 7; p++) {
            x.place(p, 0, 1);
        }
        due.is("of 0 none", x.round(7, 8, 1), 0x80);
    }

    // ---- lanes

    private static void lanesBounds() {
        due.promise("LANES, what 0 .. 3 (-2: none); NONE: no such what");
        IdleCrimes x = town(4, "cd");
        due.bounds("what", what -> x.lanes(what), 0, 1, 3, 3, -1);
        due.is("what 1", x.lanes(1), 1);
        due.is("what 2", x.lanes(2), 2);
    }

    private static void lanesEmptyAndFull() {
        due.promise("twos that are NEXT to each other: how many; (-2: none)");
        IdleCrimes x = new IdleCrimes();
        int[] none = {0, 0, -2, -2};
        int[] all = {120, 0, -2, -2};
        IdleCrimes y = full();
        for (int what = 0; what < 4; what++) {
            due.is("none " + what, x.lanes(what), none[what]);
            due.is("all " + what, y.lanes(what), all[what]);
            due.is("places alone " + what, town(16, "").lanes(what), none[what]);
        }
        due.is("a row", town(16, row(16)).lanes(1), 15);
        due.is("a ring", town(16, row(16) + " pa").lanes(1), 0);
        due.is("a ring's lanes", town(16, row(16) + " pa").lanes(0), 16);
    }

    private static void bridgesAreThoseWithoutWhich() {
        due.promise("those without which two PLACES that now can come to each other could not (BRIDGES)");
        due.is("a ring of three and one", town(4, "ab bc ca cd").lanes(1), 1);
        due.is("two rings and a bridge", town(6, "ab bc ca cd de ef fd").lanes(1), 1);
        due.is("two rings at one place", town(5, "ab bc ca cd de ec").lanes(1), 0);
        due.is("two parts", town(5, "ab cd de").lanes(1), 3);
        IdleCrimes x = town(16, row(16) + " pa");
        Due.pleas(x, "h/i");
        due.is("a ring without one", x.lanes(1), 15);
        due.is("asked again", x.lanes(1), 15);
        due.is("they stay next", x.lanes(0), 15);
    }

    private static void firstBridge() {
        due.promise("the first (by its lower PLACE, then the other)");
        IdleCrimes x = town(16, "po");
        due.is("the last two: lower", x.lanes(2), 14);
        due.is("the last two: other", x.lanes(3), 15);
        x = town(16, "pa bc");
        due.is("by the lower one", x.lanes(2), 0);
        due.is("its other", x.lanes(3), 15);
        x = town(16, "ap ah");
        due.is("then the other", x.lanes(3), 7);
        x = town(6, "ab bc ca fe ed");
        due.is("the first two are none", x.lanes(2), 3);
        due.is("d e", x.lanes(3), 4);
    }

    // ---- watches

    private static void watchesBounds() {
        due.promise("WATCHES, what 100 how many .., else the one of told PLACE what; NONE: no such ones");
        IdleCrimes x = full();
        due.bounds("what", what -> what == 100 ? -1 : x.watches(what), 0, 0, 15, 15, -1);
        due.is("how many", x.watches(100), 16);
        due.is("what 99", x.watches(99), -1);
        due.is("what 101", x.watches(101), -1);
        due.is("not told", town(3, "").watches(3), -1);
    }

    private static void watchesEmptyAndFull() {
        due.promise("(no PLACES: 0)");
        due.is("none", new IdleCrimes().watches(100), 0);
        due.is("none of a", new IdleCrimes().watches(0), -1);
        due.is("one", town(1, "").watches(100), 1);
        due.is("one for all alone", town(16, "").watches(100), 1);
        due.is("two", town(16, row(16)).watches(100), 2);
        IdleCrimes x = full();
        for (int p = 0; p < 16; p++) {
            due.is("each its own", x.watches(p), p);
        }
    }

    private static void isRow(String lanes, int... row) {
        IdleCrimes x = town(row.length, lanes);
        int most = 0;
        for (int p = 0; p < row.length; p++) {
            due.is(lanes + " of " + p, x.watches(p), row[p]);
            most = Math.max(most, row[p] + 1);
        }
        due.is(lanes + " in all", x.watches(100), most);
    }

    private static void watchesAreTheLeastRow() {
        due.promise("the fewest ..; the one of a PLACE (of like ones the least row by PLACES, WATCHES 0 on)");
        isRow("ab", 0, 1);
        isRow("bc", 0, 0, 1);
        isRow("ac", 0, 0, 1);
        isRow("ad bc", 0, 0, 1, 1);
        // taking the lowest free one each would want three
        isRow("ac cd db", 0, 1, 1, 0);
        isRow("ab bc cd de ea", 0, 1, 0, 1, 2);
        isRow("ab bc ca ad bd cd", 0, 1, 2, 3);
        isRow("ab cd ef gh ij kl mn op", 0, 1, 0, 1, 0, 1, 0, 1, 0, 1, 0, 1, 0, 1, 0, 1);
        isRow("be bf ce cg df dg ae af ag", 0, 0, 0, 0, 1, 1, 1);
    }

    private static void watchesOfOtherLanes() {
        due.promise("WATCHES as the lanes are now");
        IdleCrimes x = town(3, "");
        due.is("alone", x.watches(2), 0);
        Due.pleas(x, "a&b;b&c");
        due.is("in a row, how many", x.watches(100), 2);
        due.is("in a row, b", x.watches(1), 1);
        due.is("in a row, c", x.watches(2), 0);
        Due.pleas(x, "c&a");
        due.is("in a ring, c", x.watches(2), 2);
        due.is("in a ring, b", x.watches(1), 1);
        due.is("in a ring, how many", x.watches(100), 3);
        Due.pleas(x, "a/b;b/c;c/a");
        due.is("alone again, how many", x.watches(100), 1);
        due.is("alone again", x.watches(1), 0);
        x.place(15, 1, 1);
        due.is("one more", x.watches(15), 0);
    }

    // ---- nearest

    private static void nearestBounds() {
        due.promise("NEAREST to a told PLACE, what 0 who, 1 how many steps; -2: nobody can come; NONE: no such ones");
        IdleCrimes x = town(16, row(16));
        x.constable(5, 15);
        due.bounds("what", what -> x.nearest(0, what), 0, 5, 1, 15, -1);
        due.bounds("p", p -> x.nearest(p, 1), 0, 15, 15, 0, -1);
        due.is("not told", town(3, "").nearest(3, 0), -1);
        IdleCrimes y = town(3, "ab");
        for (int what = 0; what < 2; what++) {
            due.is("nobody is told", y.nearest(0, what), -2);
            y.constable(0, 2);
            due.is("nobody can come", y.nearest(0, what), -2);
            due.is("he is there", y.nearest(2, what), 0);
        }
        due.is("NONE ahead of -2", y.nearest(0, 2), -1);
    }

    private static void nearestOfLikeOnes() {
        due.promise("the CONSTABLE with the fewest steps to a PLACE (of like ones the lowest)");
        IdleCrimes x = town(5, row(5));
        x.constable(7, 0);
        x.constable(3, 4);
        due.is("in the middle", x.nearest(2, 0), 3);
        due.is("nearer to the other", x.nearest(1, 0), 7);
        x.constable(0, 4);
        due.is("a lower one there", x.nearest(2, 0), 0);
        x.constable(1, 2);
        due.is("who is there", x.nearest(2, 0), 1);
        due.is("no steps", x.nearest(2, 1), 0);
    }

    // ---- all in all

    private static void countBounds() {
        due.promise("0 THE HOUR .. 8 X. NONE for others");
        IdleCrimes x = new IdleCrimes();
        due.bounds("what", what -> x.count(what), 0, 0, 8, 1, -1);
        for (int p = 0; p < 16; p++) {
            x.place(p, 1, 999);
        }
        for (int c = 0; c < 8; c++) {
            x.constable(c, 0);
        }
        due.is("all places", x.count(3), 0xFFFF);
        due.is("all constables", x.count(4), 255);
        Due.law(x, "w99(1=1)");
        x.hours(240);
        due.is("all wages", x.count(5), 8 * 99 * 240);
        x.constable(7, 1);
        due.is("without the one before", x.count(5), 7 * 99 * 240);
    }

    private static void askedChangesNothing() {
        due.promise("what is asked changes nothing");
        IdleCrimes x = Scene.make();
        String once = Whole.of(x);
        due.is("asked twice", Whole.of(Scene.make()), once);
        x = Scene.make();
        x.ways(0, 5);
        x.way(0, 5, 2);
        x.posts(1);
        x.round(0, 8, 1);
        x.lanes(3);
        x.watches(6);
        x.nearest(2, 0);
        due.is("as it was", Whole.of(x), once);
    }
}
