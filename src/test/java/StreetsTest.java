/** Promises 16 to 23: places and the lanes between them. */
public final class StreetsTest {
    private static final Due due = new Due();

    public static void main(String[] args) {
        waysAndWay();
        worstPlace();
        fewestPosts();
        rounds();
        roundsInFull();
        lanesAndBridges();
        watchRows();
        nearestConstable();
        due.tell();
    }

    /** Places of temptation 10, 20 .. with lanes such as "ab bc". */
    private static IdleCrimes town(int n, String lanes) {
        IdleCrimes x = new IdleCrimes();
        for (int p = 0; p < n; p++) {
            x.place(p, Math.min(10 * p + 10, 99), 1);
        }
        for (String lane : lanes.isEmpty() ? new String[0] : lanes.split(" ")) {
            Due.pleas(x, lane.charAt(0) + "&" + lane.charAt(1));
        }
        return x;
    }

    private static String complete(int from, int n) {
        StringBuilder lanes = new StringBuilder();
        for (int p = from; p < from + n; p++) {
            for (int q = p + 1; q < from + n; q++) {
                lanes.append(lanes.length() == 0 ? "" : " ").append((char) ('a' + p)).append((char) ('a' + q));
            }
        }
        return lanes.toString();
    }

    private static void waysAndWay() {
        IdleCrimes x = town(8, "ab ac bd cd de df eg fg");
        due.promise("promise 16");
        due.is("a d", x.ways(0, 3), 2);
        due.is("a g", x.ways(0, 6), 4);
        due.is("g a", x.ways(6, 0), 4);
        due.is("a b", x.ways(0, 1), 1);
        due.is("a a", x.ways(0, 0), 1);
        due.is("a h", x.ways(0, 7), 0);
        due.is("not told", x.ways(0, 8), -1);
        due.is("not told, first", x.ways(8, 0), -1);
        due.is("no such", x.ways(-1, 0), -1);
        due.is("no such above", x.ways(0, 16), -1);
        due.is("not all of a row lead on", town(5, "ab ac bd be").ways(0, 3), 1);
        due.promise("promise 22");
        int[] row = {0, 1, 3, 4, 6};
        int[] back = {6, 4, 3, 1, 0};
        for (int i = 0; i < row.length; i++) {
            due.is("a g at " + i, x.way(0, 6, i), row[i]);
            due.is("g a at " + i, x.way(6, 0, i), back[i]);
        }
        due.is("steps", x.way(0, 6, 100), 4);
        due.is("no such place", x.way(0, 6, 5), -4);
        due.is("place 15", x.way(0, 6, 15), -4);
        due.is("what 16", x.way(0, 6, 16), -1);
        due.is("what -1", x.way(0, 6, -1), -1);
        due.is("what 99", x.way(0, 6, 99), -1);
        due.is("what 101", x.way(0, 6, 101), -1);
        due.is("itself", x.way(2, 2, 100), 0);
        due.is("itself at 0", x.way(2, 2, 0), 2);
        due.is("itself at 1", x.way(2, 2, 1), -4);
        due.is("none", x.way(0, 7, 100), -2);
        due.is("none at 15", x.way(0, 7, 15), -2);
        due.is("not told", x.way(0, 8, 100), -1);
        due.is("not told, first", x.way(8, 0, 0), -1);
        due.is("not told ahead of none", x.way(7, 9, 0), -1);
        x = town(16, "ab bc cd de ef fg gh hi ij jk kl lm mn no op");
        due.is("fifteen", x.way(0, 15, 100), 15);
        due.is("at 15", x.way(0, 15, 15), 15);
        due.is("at 14", x.way(15, 0, 14), 1);
    }

    private static void worstPlace() {
        due.promise("promise 17");
        IdleCrimes x = new IdleCrimes();
        due.is("none", x.worst(), -2);
        x.place(9, 0, 0);
        due.is("even of 0", x.worst(), 9);
        x.place(5, 10, 6);
        x.place(3, 6, 10);
        due.is("of like ones the lowest", x.worst(), 3);
        x.place(12, 61, 1);
        due.is("the greatest", x.worst(), 12);
        Due.pleas(x, "m-2");
        due.is("then", x.worst(), 3);
        x.place(0, 61, 1);
        due.is("the first", x.worst(), 0);
        x.place(15, 62, 1);
        due.is("the last", x.worst(), 15);
    }

    private static void fewestPosts() {
        due.promise("promise 18");
        IdleCrimes x = new IdleCrimes();
        due.is("no places", x.posts(0), 0);
        due.is("no places, which", x.posts(1), 0);
        due.is("what 2", x.posts(2), -1);
        due.is("what -1", x.posts(-1), -1);
        x = town(3, "");
        due.is("alone each", x.posts(0), 3);
        due.is("all", x.posts(1), 7);
        x = town(16, "");
        due.is("sixteen", x.posts(1), 0xFFFF);
        x = town(2, "ab");
        due.is("of like ones the least", x.posts(1), 1);
        x = town(6, "ab bc cd de ef");
        due.is("a row", x.posts(0), 2);
        due.is("which", x.posts(1), 0x12);
        x = town(5, "ea eb ec ed");
        due.is("a star", x.posts(1), 16);
        x = town(16, "ab cd ef gh ij kl mn op");
        due.is("eight twos", x.posts(0), 8);
        due.is("the lower ones", x.posts(1), 0x5555);
        x = town(16, complete(0, 16));
        due.is("one for all", x.posts(1), 1);
        x = new IdleCrimes();
        x.place(4, 1, 1);
        x.place(11, 1, 1);
        Due.pleas(x, "e&l");
        due.is("told ones alone", x.posts(1), 16);
    }

    private static void rounds() {
        due.promise("promise 19");
        IdleCrimes x = town(5, "ab bc ca cd");
        due.is("1 step: stays", x.round(0, 1, 0), 10);
        due.is("1 step, which", x.round(0, 1, 1), 1);
        due.is("2 steps", x.round(0, 2, 0), 40);
        due.is("2 steps, which", x.round(0, 2, 1), 5);
        due.is("3 steps", x.round(0, 3, 1), 7);
        due.is("4 steps", x.round(0, 4, 0), 80);
        due.is("5 steps", x.round(0, 5, 0), 100);
        due.is("8 steps", x.round(0, 8, 1), 15);
        due.is("alone", x.round(4, 8, 0), 50);
        due.is("no steps", x.round(0, 0, 0), -1);
        due.is("9 steps", x.round(0, 9, 0), -1);
        due.is("what 2", x.round(0, 3, 2), -1);
        due.is("what -1", x.round(0, 3, -1), -1);
        due.is("not told", x.round(5, 3, 0), -1);
        due.is("place -1", x.round(-1, 3, 0), -1);
        x = new IdleCrimes();
        for (int p = 0; p < 5; p++) {
            x.place(p, p == 2 ? 0 : 10, 0);
        }
        Due.pleas(x, "b&a;b&c;b&d;b&e");
        due.is("of like ones the least bits", x.round(1, 2, 1), 3);
        due.is("without what tempts not", x.round(1, 8, 1), 0x1B);
        due.is("over it", x.round(2, 4, 1), 7);
        due.is("nothing else near", x.round(2, 1, 1), 4);
        x = town(5, "de dc cb");
        x.place(1, 10, 0);
        x.place(2, 0, 0);
        x.place(3, 0, 0);
        x.place(4, 10, 0);
        due.is("the least bits lie farther off", x.round(3, 4, 1), 14);
        x.place(4, 11, 0);
        due.is("one more", x.round(3, 4, 1), 24);
        x.place(1, 12, 0);
        due.is("one more yet", x.round(3, 4, 1), 14);
    }

    private static void roundsInFull() {
        due.promise("promise 19, all next to all");
        IdleCrimes x = town(16, complete(0, 16));
        due.is("temptation", x.round(0, 8, 0), 10 + 7 * 99);
        due.is("the least bits of like ones", x.round(0, 8, 1), 1 | 0x7F << 9);
        due.is("from p", x.round(15, 8, 1), 0xFF00);
        due.is("3 steps", x.round(15, 3, 1), 0x8000 | 3 << 9);
        x = town(16, complete(0, 16));
        for (int p = 0; p < 16; p++) {
            x.place(p, 0, 0);
        }
        due.is("nothing tempts", x.round(7, 8, 1), 1 << 7);
        for (int p = 0; p < 16; p++) {
            x.place(p, 5, 0);
        }
        due.is("all alike", x.round(7, 8, 1), 255);
        due.is("all alike from p", x.round(15, 8, 1), 0x807F);
        x = town(16, "ab bc cd de ef fg gh ha");
        due.is("just around", x.round(0, 8, 1), 255);
        due.is("one step less", x.round(0, 7, 1), 0xE1);
    }

    private static void lanesAndBridges() {
        due.promise("promise 20");
        IdleCrimes x = new IdleCrimes();
        due.is("none", x.lanes(0), 0);
        due.is("no bridges", x.lanes(1), 0);
        due.is("no first", x.lanes(2), -2);
        due.is("no other", x.lanes(3), -2);
        due.is("what 4", x.lanes(4), -1);
        due.is("what -1", x.lanes(-1), -1);
        x = town(8, "ab bc ca dc de ef fd hg");
        due.is("lanes", x.lanes(0), 8);
        due.is("bridges", x.lanes(1), 2);
        due.is("the first, lower", x.lanes(2), 2);
        due.is("the first, other", x.lanes(3), 3);
        Due.pleas(x, "a&d");
        due.is("g h is left", x.lanes(2), 6);
        due.is("h", x.lanes(3), 7);
        due.is("bridges", x.lanes(1), 1);
        x = town(4, "dc db da");
        due.is("all are", x.lanes(1), 3);
        due.is("a", x.lanes(2), 0);
        due.is("d", x.lanes(3), 3);
        due.is("they stay", x.lanes(0), 3);
    }

    private static void watchRows() {
        due.promise("promise 21");
        IdleCrimes x = new IdleCrimes();
        due.is("no places", x.watches(100), 0);
        due.is("not told", x.watches(0), -1);
        x = town(3, "");
        due.is("one", x.watches(100), 1);
        due.is("0 for each", x.watches(2), 0);
        due.is("what 99", x.watches(99), -1);
        due.is("what -1", x.watches(-1), -1);
        due.is("what 16", x.watches(16), -1);
        row(town(4, "ab bc cd da"), 2, 0, 1, 0, 1);
        row(town(5, "ab bc cd de ea"), 3, 0, 1, 0, 1, 2);
        row(town(6, complete(0, 6)), 6, 0, 1, 2, 3, 4, 5);
        // b could have 0 as a, but then c, d would want three
        row(town(4, "ac cd db"), 2, 0, 1, 1, 0);
        row(town(6, "ad ae bd bf ce cf"), 2, 0, 0, 0, 1, 1, 1);
        row(town(6, "af fb bc ce"), 2, 0, 0, 1, 0, 0, 1);
        row(town(8, "ab bc ca de ef fd ad gh"), 3, 0, 1, 2, 1, 0, 2, 0, 1);
        IdleCrimes far = town(16, complete(10, 6));
        due.is("six of the last", far.watches(100), 6);
        due.is("a", far.watches(0), 0);
        due.is("p", far.watches(15), 5);
        due.is("sixteen", town(16, complete(0, 16)).watches(100), 16);
    }

    private static void row(IdleCrimes x, int many, int... watches) {
        due.is("how many", x.watches(100), many);
        for (int p = 0; p < watches.length; p++) {
            due.is("watches(" + p + ")", x.watches(p), watches[p]);
        }
    }

    private static void nearestConstable() {
        due.promise("promise 23");
        IdleCrimes x = town(6, "ab bc cd de");
        due.is("nobody", x.nearest(0, 0), -2);
        due.is("nobody, steps", x.nearest(0, 1), -2);
        x.constable(6, 0);
        x.constable(3, 4);
        due.is("b", x.nearest(1, 0), 6);
        due.is("b, steps", x.nearest(1, 1), 1);
        due.is("c: of like ones the lowest", x.nearest(2, 0), 3);
        due.is("c, steps", x.nearest(2, 1), 2);
        due.is("there", x.nearest(4, 1), 0);
        due.is("nobody can come", x.nearest(5, 1), -2);
        x.constable(7, 5);
        due.is("the last", x.nearest(5, 0), 7);
        x.constable(0, 5);
        due.is("the first", x.nearest(5, 0), 0);
        due.is("what 2", x.nearest(0, 2), -1);
        due.is("what -1", x.nearest(0, -1), -1);
        due.is("not told", x.nearest(6, 0), -1);
        due.is("not told ahead", x.nearest(16, 0), -1);
    }
}
