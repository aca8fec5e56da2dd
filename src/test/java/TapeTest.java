/** Promises 24 to 28 and 32: what is asked of bytes on the tape. */
public final class TapeTest {
    private static final Due due = new Due();

    public static void main(String[] args) {
        alibis();
        alibisRefused();
        bench();
        benchRefused();
        likely();
        shares();
        odds();
        oddsRefused();
        checks();
        due.tell();
    }

    private static IdleCrimes row() {
        IdleCrimes x = new IdleCrimes();
        for (int p = 0; p < 5; p++) {
            x.place(p, p, 0);
        }
        Due.pleas(x, "a&b;b&c;c&d");
        return x;
    }

    private static void alibis() {
        due.promise("promise 24");
        IdleCrimes x = row();
        int[] sworn = {0, 0, 3, 4, 3, 0, 3, 9, 0, 5, 3, 9, 2, 7, 2, 7, 4, 0, 4, 255, 0, 9, 0, 3, 0, 0, 3, 2};
        int[][] asked = {{2, 1, 0b0000010}, {2, 2, 0b0000011}, {2, 3, 0b0000011}, {0, 4, 0b0000010}, {1, 6, 0b0000110},
            {2, 7, 0b0001110}, {3, 8, 0b0000110}, {4, 0, 0b0010000}, {4, 255, 0b0010000}, {0, 0, 0b0000001}, {3, 0, 0b0000010},
            {3, 9, 0b0000110}, {3, 10, 0}, {0, 6, 0b0000110}, {0, 3, 0b0000010}, {0, 5, 0b0000110}, {1, 1, 0b0000001}};
        for (int[] one : asked) {
            Due.bytes(x, sworn);
            due.is("alibis(7, " + one[0] + ", " + one[1] + ")", x.alibis(7, one[0], one[1]), one[2]);
            due.is("the tape is empty", x.count(7), 0);
        }
        Due.bytes(x, 0, 0, 3, 2);
        due.is("could not be true", x.alibis(1, 1, 1), 0);
        Due.bytes(x, 0, 0, 4, 255);
        due.is("no way", x.alibis(1, 0, 0), 0);
        Due.bytes(x, 2, 200, 2, 255);
        due.is("hours above 127", x.alibis(1, 2, 230), 1);
        Due.bytes(x, 2, 200, 2, 255);
        due.is("a way off and back", x.alibis(1, 0, 202), 1);
        Due.bytes(x, 2, 200, 2, 255);
        due.is("too far", x.alibis(1, 0, 201), 0);
    }

    private static void alibisRefused() {
        due.promise("promise 24, refused");
        IdleCrimes x = row();
        due.is("no tape", x.alibis(1, 0, 0), -1);
        Due.bytes(x, new int[60]);
        due.is("n 0", x.alibis(0, 0, 0), -1);
        due.is("n 11", x.alibis(11, 0, 0), -1);
        due.is("not told", x.alibis(1, 5, 0), -1);
        due.is("place 16", x.alibis(1, 16, 0), -1);
        due.is("hour -1", x.alibis(1, 0, -1), -1);
        due.is("hour 256", x.alibis(1, 0, 256), -1);
        due.is("the tape stays", x.count(7), 60);
        due.is("n 10", x.alibis(10, 0, 0), 1023);
        due.is("empty then", x.count(7), 0);
        Due.bytes(x, 0, 0, 0, 0, 0, 9, 5, 3);
        due.is("a place that is not told", x.alibis(2, 0, 0), -2);
        due.is("empty then, too", x.count(7), 0);
        Due.bytes(x, 255, 0, 0, 0);
        due.is("no place at all", x.alibis(1, 0, 0), -2);
        Due.bytes(x, 0, 0, 0, 0, 5, 0, 5, 0);
        due.is("behind what is asked", x.alibis(1, 0, 0), 1);
        Due.bytes(x, 0, 0, 0, 0);
        due.is("not so many", x.alibis(6, 0, 0), -1);
        due.is("just so many", x.alibis(5, 0, 0), 31);
    }

    private static void isBench(int n, int m, int first, int fewest, int alike, int... rankings) {
        IdleCrimes x = new IdleCrimes();
        int[] answers = {first, fewest, alike};
        for (int what = 0; what < 3; what++) {
            Due.bytes(x, rankings);
            due.is("bench(" + n + ", " + m + ", " + what + ")", x.bench(n, m, what), answers[what]);
            due.is("the tape is empty", x.count(7), 0);
        }
    }

    private static void bench() {
        due.promise("promise 25");
        isBench(3, 3, 0, 0, 0, 0, 1, 2, 1, 2, 0, 0, 2, 1);
        isBench(3, 3, -2, 0, 0, 0, 1, 2, 1, 2, 0, 2, 0, 1);
        isBench(2, 2, -2, 0, 1, 0, 1, 1, 0);
        isBench(2, 1, 1, 1, 0, 1, 0);
        // the one that beats all is not the one with the fewest places
        isBench(3, 5, 0, 1, 0, 0, 1, 2, 0, 1, 2, 0, 1, 2, 1, 2, 0, 1, 2, 0);
        // half is not more than half
        isBench(3, 2, -2, 0, 1, 0, 1, 2, 1, 0, 2);
        isBench(6, 1, 5, 5, 0, 5, 4, 3, 2, 1, 0);
        isBench(6, 2, -2, 0, 15, 5, 4, 3, 2, 1, 0, 0, 1, 2, 3, 4, 5);
        isBench(3, 9, 2, 2, 0, 2, 0, 1, 2, 0, 1, 2, 0, 1, 2, 0, 1, 2, 0, 1, 0, 1, 2, 0, 1, 2, 0, 2, 1, 1, 2, 0);
    }

    private static void benchRefused() {
        due.promise("promise 25, refused");
        isBench(2, 1, -3, -3, -3, 0, 0);
        isBench(3, 2, -3, -3, -3, 0, 1, 2, 0, 1, 3);
        isBench(2, 2, -3, -3, -3, 0, 1, 1, 255);
        IdleCrimes x = new IdleCrimes();
        due.is("no tape", x.bench(2, 1, 0), -1);
        Due.bytes(x, 0, 1, 1, 0);
        int[][] wrong = {{1, 1, 0}, {7, 1, 0}, {2, 0, 0}, {2, 10, 0}, {2, 1, -1}, {2, 1, 3}, {3, 7, 0}, {6, 9, 0}, {-2, -1, 0}};
        for (int[] one : wrong) {
            due.is("bench(" + one[0] + ", " + one[1] + ", " + one[2] + ")", x.bench(one[0], one[1], one[2]), -1);
        }
        due.is("the tape stays", x.count(7), 20);
        due.is("then", x.bench(2, 1, 0), 0);
    }

    private static void isLikely(int bits, int product, int whose, int... cases) {
        IdleCrimes x = new IdleCrimes();
        int[] answers = {bits, product, whose};
        for (int what = 0; what < 3; what++) {
            Due.bytes(x, cases);
            due.is("likely(" + cases.length / 2 + ", " + what + ")", x.likely(cases.length / 2, what), answers[what]);
            due.is("the tape is empty", x.count(7), 0);
        }
    }

    private static void likely() {
        due.promise("promise 26");
        isLikely(0b11011, 27, 1, 5, 5, 3, 9, 4, 4, 9, 1, 5, 5);
        isLikely(1, 0, 0, 0, 0);
        isLikely(1, 65025, 0, 255, 255, 255, 254, 254, 255);
        isLikely(0b110, 6, 1, 2, 2, 2, 3, 3, 2);
        isLikely(0xFFFF, 0, 0, new int[32]);
        isLikely(0b10, 200, 1, 0, 200, 1, 200, 1, 0);
        IdleCrimes x = new IdleCrimes();
        due.is("no tape", x.likely(1, 0), -1);
        Due.bytes(x, new int[40]);
        due.is("n 0", x.likely(0, 0), -1);
        due.is("n 17", x.likely(17, 0), -1);
        due.is("what 3", x.likely(1, 3), -1);
        due.is("what -1", x.likely(1, -1), -1);
        due.is("the tape stays", x.count(7), 40);
        due.is("n 16", x.likely(16, 0), 0xFFFF);
        Due.bytes(x, 1, 1);
        due.is("not so many", x.likely(11, 0), -1);
    }

    private static void shares() {
        due.promise("promise 27");
        IdleCrimes x = new IdleCrimes();
        int[] prizes = {10, 0b111, 9, 0, 5, 0b100, 255, 0b11111111, 1, 0b10000010, 0, 0b1, 200, 0b1000};
        int[] pence = {4 + 32, 3 + 32 + 1, 3 + 5 + 32, 32 + 200, 32, 32, 32, 31};
        for (int c = 0; c < 8; c++) {
            Due.bytes(x, prizes);
            due.is("share(7, " + c + ")", x.share(7, c), pence[c]);
            due.is("the tape is empty", x.count(7), 0);
        }
        due.is("no tape", x.share(1, 0), -1);
        Due.bytes(x, 5, 1, 7, 2);
        due.is("n 0", x.share(0, 0), -1);
        due.is("n 13", x.share(13, 0), -1);
        due.is("c -1", x.share(1, -1), -1);
        due.is("c 8", x.share(1, 8), -1);
        due.is("not so many", x.share(11, 0), -1);
        due.is("the tape stays", x.count(7), 20);
        due.is("the first", x.share(1, 0), 5);
        Due.bytes(x, 9, 3, 9, 3, 9, 3, 9, 3, 9, 3, 9, 3, 9, 3, 9, 3, 9, 3, 9, 3, 9, 3, 9, 3);
        due.is("n 13, though there are so many", x.share(13, 0), -1);
        due.is("n 12", x.share(12, 0), 60);
    }

    private static void isOdds(int[] answers, int... tenths) {
        IdleCrimes x = new IdleCrimes();
        for (int what = 0; what < 6; what++) {
            Due.bytes(x, tenths);
            due.is("odds(" + tenths.length + ", " + what + ")", x.odds(tenths.length, what), answers[what]);
            due.is("the tape is empty", x.count(7), 0);
        }
    }

    private static void odds() {
        due.promise("promise 28");
        isOdds(new int[] {1, 4, 1, 4, 3, 4}, 5, 5);
        isOdds(new int[] {1, 1, 0, 1, 1, 1}, 10);
        isOdds(new int[] {0, 1, 1, 1, 0, 1}, 0);
        isOdds(new int[] {0, 1, 0, 1, 1, 1}, 0, 10);
        isOdds(new int[] {3, 50, 14, 25, 11, 25}, 2, 3);
        isOdds(new int[] {19683, 1000000000, 40353607, 1000000000, 959646393, 1000000000}, 3, 3, 3, 3, 3, 3, 3, 3, 3);
        isOdds(new int[] {1, 1000000000, 387420489, 1000000000, 612579511, 1000000000}, 1, 1, 1, 1, 1, 1, 1, 1, 1);
        isOdds(new int[] {0, 1, 1, 1, 0, 1}, 0, 0, 0, 0, 0, 0, 0, 0, 0);
        isOdds(new int[] {1, 1, 0, 1, 1, 1}, 10, 10, 10, 10, 10, 10, 10, 10, 10);
    }

    private static void oddsRefused() {
        due.promise("promise 28, refused");
        isOdds(new int[] {-2, -2, -2, -2, -2, -2}, 5, 11);
        isOdds(new int[] {-2, -2, -2, -2, -2, -2}, 255);
        IdleCrimes x = new IdleCrimes();
        due.is("no tape", x.odds(1, 0), -1);
        Due.bytes(x, 1, 2, 11);
        due.is("n 0", x.odds(0, 0), -1);
        due.is("n 10", x.odds(10, 0), -1);
        due.is("what -1", x.odds(1, -1), -1);
        due.is("what 6", x.odds(1, 6), -1);
        due.is("NONE ahead of -2", x.odds(3, 6), -1);
        due.is("the tape stays", x.count(7), 20);
        due.is("11 is not asked", x.odds(2, 1), 50);
    }

    private static void checks() {
        due.promise("promise 32");
        IdleCrimes x = new IdleCrimes();
        x.place(0, 10, 0);
        x.place(2, 99, 0);
        int[] right = {10, 255, 99, 255, 255, 255, 255, 255, 255, 255, 255, 255, 255, 255, 255, 255};
        Due.bytes(x, right);
        due.is("right", x.check(16), -1);
        due.is("the tape is empty", x.count(7), 0);
        due.is("not so many", x.check(1), -2);
        due.is("none asked", x.check(0), -1);
        Due.bytes(x, 10, 255, 98);
        due.is("n 17", x.check(17), -2);
        due.is("n -1", x.check(-1), -2);
        due.is("the tape stays", x.count(7), 20);
        due.is("the third is not so", x.check(16), 2);
        due.is("empty then", x.count(7), 0);
        Due.bytes(x, 10, 0, 0);
        due.is("not told is 255", x.check(3), 1);
        Due.bytes(x, 10, 255, 0);
        due.is("two are right", x.check(2), -1);
        Due.bytes(x, 10);
        due.is("check(0)", x.check(0), -1);
        due.is("empties the tape", x.count(7), 0);
        Due.pleas(x, "a+1");
        Due.bytes(x, 10);
        due.is("no longer", x.check(1), 0);
    }
}
