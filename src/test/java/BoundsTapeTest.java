/** The bounds of promises 24 to 28 and 32: what is asked of bytes on the tape. Each method is a sentence of the document. */
public final class BoundsTapeTest {
    private static final Due due = new Due();

    public static void main(String[] args) {
        alibisAre1To10();
        alibisAtAToldPlace();
        alibisAtAnHour();
        alibisOfAPlaceThatIsNotTold();
        alibisBetween();
        alibisThatCouldNotBeTrue();
        benchIs2To6Cases();
        benchIs1To9Judges();
        benchWhat();
        benchRankings();
        benchTellsMinus3AheadOfMinus2();
        benchBeatsEachOther();
        benchFewestPlaces();
        benchTwosAlike();
        likelyIs1To16();
        likelyWhat();
        likelyNoneOtherBeats();
        likelyOfLikeOnes();
        shareIs1To12();
        shareOfConstables0To7();
        shareOfEachSize();
        sharePenceThatAreLeft();
        oddsAre1To9();
        oddsWhat();
        oddsTenthsAbove10();
        oddsWithoutACommonDivisor();
        checkIs0To16();
        checkTheFirstThatIsNotSo();
        firstBytesOfTheTape();
        due.tell();
    }

    private static IdleCrimes row(int places) {
        IdleCrimes x = new IdleCrimes();
        for (int p = 0; p < places; p++) {
            x.place(p, p, 0);
            if (p > 0) {
                Due.pleas(x, "" + (char) ('a' + p - 1) + '&' + (char) ('a' + p));
            }
        }
        return x;
    }

    private static IdleCrimes with(IdleCrimes x, int... bytes) {
        Due.bytes(x, bytes);
        return x;
    }

    // ---- alibis

    private static void alibisAre1To10() {
        due.promise("n 1 to 10; NONE: no such ones, it has not so many (the tape stays)");
        due.bounds("n", n -> with(row(1), new int[60]).alibis(n, 0, 0), 1, 1, 10, 1023, -1);
        due.is("not so many", with(row(1), new int[20]).alibis(6, 0, 0), -1);
        due.is("just so many", with(row(1), new int[20]).alibis(5, 0, 0), 31);
        due.is("no tape", row(1).alibis(1, 0, 0), -1);
    }

    private static void alibisAtAToldPlace() {
        due.promise("at a told PLACE; NONE: no such ones");
        due.bounds("p", p -> with(row(16), 0, 0, 0, 255).alibis(1, p, 100), 0, 1, 15, 1, -1);
        IdleCrimes x = with(row(3), 0, 0, 0, 255);
        due.is("not told", x.alibis(1, 3, 0), -1);
        due.is("the tape stays", x.count(7), 20);
        due.is("told", x.alibis(1, 2, 2), 1);
        due.is("empty then", x.count(7), 0);
    }

    private static void alibisAtAnHour() {
        due.promise("at an hour (0 to 255)");
        due.bounds("hour", hour -> with(row(1), 0, 0, 0, 255).alibis(1, 0, hour), 0, 1, 255, 1, -1);
        due.is("sworn at 255", with(row(1), 0, 255, 0, 255).alibis(1, 0, 255), 1);
        due.is("sworn at 0", with(row(1), 0, 0, 0, 0).alibis(1, 0, 0), 1);
    }

    private static void alibisOfAPlaceThatIsNotTold() {
        due.promise("-2: a PLACE that is not told; NONE is told first");
        for (int p = 0; p < 256; p++) {
            int first = with(row(5), p, 0, 4, 255).alibis(1, 0, 100);
            int second = with(row(5), 4, 0, p, 255).alibis(1, 0, 100);
            due.is("first " + p, first, p < 5 ? 1 : -2);
            due.is("second " + p, second, p < 5 ? 1 : -2);
        }
        IdleCrimes x = with(row(5), 0, 0, 0, 9, 0, 0, 5, 9);
        due.is("NONE ahead", x.alibis(2, 5, 0), -1);
        due.is("NONE of the hour ahead", x.alibis(2, 0, 256), -1);
        due.is("the tape stays", x.count(7), 20);
        due.is("of the last one", x.alibis(2, 0, 0), -2);
        due.is("empty then", x.count(7), 0);
        due.is("of one behind the last", with(row(5), 0, 0, 0, 9, 0, 0, 5, 9).alibis(1, 0, 0), 1);
        due.is("even of one that could not be true", with(row(5), 0, 9, 5, 0).alibis(1, 0, 0), -2);
    }

    private static void alibisBetween() {
        due.promise("who could have been at a PLACE at an hour between (bits; hours one step each)");
        // from a at 10 to a at 20, past e: four there, four back
        for (int hour = 0; hour < 256; hour++) {
            due.is("e at " + hour, with(row(5), 0, 10, 0, 20).alibis(1, 4, hour), Due.bit(hour >= 14 && hour <= 16));
            due.is("a at " + hour, with(row(5), 0, 10, 0, 20).alibis(1, 0, hour), Due.bit(hour >= 10 && hour <= 20));
            due.is("c on the way to e at " + hour, with(row(5), 0, 10, 4, 15).alibis(1, 2, hour), Due.bit(hour == 12 || hour == 13));
        }
        due.is("just so, at e", with(row(5), 0, 10, 0, 18).alibis(1, 4, 14), 1);
        due.is("one hour less", with(row(5), 0, 10, 0, 17).alibis(1, 4, 14), 0);
        due.is("at the first hour where he swears", with(row(5), 0, 10, 4, 15).alibis(1, 0, 10), 1);
        due.is("at the last hour where he swears", with(row(5), 0, 10, 4, 15).alibis(1, 4, 15), 1);
        due.is("at the first hour elsewhere", with(row(5), 0, 10, 4, 255).alibis(1, 1, 10), 0);
        due.is("two steps off", with(row(3), 0, 0, 0, 255).alibis(1, 2, 2), 1);
        IdleCrimes x = new IdleCrimes();
        x.place(0, 0, 0);
        x.place(1, 0, 0);
        due.is("no lane", with(x, 0, 0, 0, 255).alibis(1, 1, 100), 0);
    }

    private static void alibisThatCouldNotBeTrue() {
        due.promise("at a PLACE at a later (or the same) hour; an alibi that could not be true itself: he could not");
        due.is("the same hour, the same place", with(row(3), 1, 7, 1, 7).alibis(1, 1, 7), 1);
        due.is("the same hour, another place", with(row(3), 1, 7, 2, 7).alibis(1, 1, 7), 0);
        due.is("the same hour, another place, asked there", with(row(3), 1, 7, 2, 7).alibis(1, 2, 7), 0);
        due.is("an earlier hour", with(row(3), 1, 7, 1, 6).alibis(1, 1, 6), 0);
        due.is("an earlier hour, asked then", with(row(3), 1, 7, 1, 6).alibis(1, 1, 7), 0);
        due.is("too far", with(row(3), 0, 7, 2, 8).alibis(1, 0, 7), 0);
        due.is("too far, asked there", with(row(3), 0, 7, 2, 8).alibis(1, 2, 8), 0);
        due.is("just so far", with(row(3), 0, 7, 2, 9).alibis(1, 0, 7), 1);
        due.is("just so far, asked there", with(row(3), 0, 7, 2, 9).alibis(1, 2, 9), 1);
        due.is("255 ahead of 0", with(row(1), 0, 255, 0, 0).alibis(1, 0, 0), 0);
        due.is("each by his own hours", with(row(3), 0, 9, 2, 11, 2, 7, 0, 9, 0, 8, 0, 12, 1, 0, 1, 7).alibis(4, 1, 8), 0b0010);
        due.is("each by his own hours, later", with(row(3), 0, 9, 2, 11, 2, 7, 0, 9, 0, 8, 0, 12, 1, 0, 1, 7).alibis(4, 1, 10), 0b0101);
        due.is("bits of those who could", with(row(3), 0, 7, 2, 8, 0, 7, 2, 9, 0, 9, 0, 7, 1, 0, 1, 255).alibis(4, 1, 8), 0b1010);
    }

    // ---- the bench

    private static final int[] SIX = {5, 4, 3, 2, 1, 0};

    private static int[] rankings(int n, int m) {
        int[] bytes = new int[n * m];
        for (int i = 0; i < n * m; i++) {
            bytes[i] = n - 1 - i % n;
        }
        return bytes;
    }

    private static void benchIs2To6Cases() {
        due.promise("n cases (2 to 6); NONE: no such ones, it has not so many (the tape stays)");
        due.bounds("n", n -> {
            IdleCrimes x = with(new IdleCrimes(), n < 2 || n > 6 ? SIX : rankings(n, 3));
            return x.bench(n, 3, 0);
        }, 2, 1, 6, 5, -1);
        due.is("one case that is ranked", with(new IdleCrimes(), 0).bench(1, 1, 0), -1);
        due.is("seven", with(new IdleCrimes(), 0, 1, 2, 3, 4, 5, 6).bench(7, 1, 0), -1);
    }

    private static void benchIs1To9Judges() {
        due.promise("m judges (1 to 9) by the first n m bytes of the tape (.. empty then)");
        due.bounds("m", m -> {
            IdleCrimes x = with(new IdleCrimes(), rankings(6, 12));
            return x.bench(6, m, 0);
        }, 1, 5, 9, 5, -1);
        due.bounds("m, of two", m -> {
            IdleCrimes x = with(new IdleCrimes(), rankings(2, 10));
            return x.bench(2, m, 1);
        }, 1, 1, 9, 1, -1);
        IdleCrimes x = with(new IdleCrimes(), rankings(6, 3));
        due.is("24 bytes of 20", x.bench(6, 4, 0), -1);
        due.is("40 bytes it has not", with(new IdleCrimes(), rankings(5, 4)).bench(5, 5, 0), -1);
        due.is("20 bytes of 20", with(new IdleCrimes(), rankings(5, 4)).bench(5, 4, 0), 4);
        due.is("the tape stays", x.count(7), 20);
        due.is("18 bytes of 20", x.bench(6, 3, 0), 5);
        due.is("empty then", x.count(7), 0);
        due.is("no tape", x.bench(2, 1, 0), -1);
        due.is("n m wraps around", x.bench(6, 1 << 30, 0), -1);
    }

    private static void benchWhat() {
        due.promise("what 0 .., 1 .., 2 ..; NONE: no such ones");
        due.bounds("what", what -> with(new IdleCrimes(), 1, 0, 0, 1).bench(2, 2, what), 0, -2, 2, 1, -1);
        due.is("what 1", with(new IdleCrimes(), 1, 0, 0, 1).bench(2, 2, 1), 0);
        IdleCrimes x = with(new IdleCrimes(), 0, 0);
        due.is("NONE ahead of -3", x.bench(2, 1, 3), -1);
        due.is("the tape stays", x.count(7), 20);
    }

    private static void benchRankings() {
        due.promise("-3: a ranking that does not name each just once");
        for (int b = 0; b < 256; b++) {
            for (int what = 0; what < 3; what++) {
                int want = b == 2 ? new int[] {0, 0, 0}[what] : -3;
                due.is("the third is " + b, with(new IdleCrimes(), 0, 1, b).bench(3, 1, what), want);
            }
        }
        IdleCrimes x = with(new IdleCrimes(), 0, 1, 1, 0, 1, 1);
        due.is("the third judge's", x.bench(2, 3, 2), -3);
        due.is("empty then", x.count(7), 0);
        due.is("one that is not asked", with(new IdleCrimes(), 0, 1, 1, 0, 1, 1).bench(2, 2, 2), 1);
        due.is("the first judge's", with(new IdleCrimes(), 1, 1, 0, 1).bench(2, 2, 1), -3);
        due.is("32", with(new IdleCrimes(), 32, 1).bench(2, 1, 1), -3);
    }

    private static void benchTellsMinus3AheadOfMinus2() {
        due.promise("in bench() -3 ahead of -2");
        due.is("the last of three who do not agree", with(new IdleCrimes(), 0, 1, 1, 0, 0, 0).bench(2, 3, 0), -3);
        due.is("-2 without it", with(new IdleCrimes(), 0, 1, 1, 0).bench(2, 2, 0), -2);
    }

    private static void benchBeatsEachOther() {
        due.promise("the case that beats each other one by more judges than not (-2: none)");
        due.is("by one of three", with(new IdleCrimes(), 0, 1, 1, 0, 1, 0).bench(2, 3, 0), 1);
        due.is("by none of two", with(new IdleCrimes(), 0, 1, 1, 0).bench(2, 2, 0), -2);
        due.is("by two of four", with(new IdleCrimes(), 0, 1, 1, 0, 1, 0, 1, 0).bench(2, 4, 0), 1);
        due.is("all but one", with(new IdleCrimes(), 0, 1, 2, 1, 0, 2, 0, 2, 1, 1, 2, 0).bench(3, 4, 0), -2);
        due.is("round about", with(new IdleCrimes(), 0, 1, 2, 1, 2, 0, 2, 0, 1).bench(3, 3, 0), -2);
        due.is("the last", with(new IdleCrimes(), 5, 0, 1, 2, 3, 4).bench(6, 1, 0), 5);
    }

    private static void benchFewestPlaces() {
        due.promise("the case with the fewest places added up (of like ones the lowest)");
        due.is("of two like ones", with(new IdleCrimes(), 1, 0, 0, 1).bench(2, 2, 1), 0);
        due.is("of three like ones", with(new IdleCrimes(), 2, 1, 0, 0, 2, 1, 1, 0, 2).bench(3, 3, 1), 0);
        due.is("of the second and third", with(new IdleCrimes(), 2, 1, 0, 1, 2, 0).bench(3, 2, 1), 1);
        due.is("the last", with(new IdleCrimes(), SIX).bench(6, 1, 1), 5);
    }

    private static void benchTwosAlike() {
        due.promise("for how many twos of cases as many judges think one way as the other");
        due.is("none of one judge", with(new IdleCrimes(), SIX).bench(6, 1, 2), 0);
        due.is("all fifteen", with(new IdleCrimes(), 5, 4, 3, 2, 1, 0, 0, 1, 2, 3, 4, 5).bench(6, 2, 2), 15);
        due.is("all but one", with(new IdleCrimes(), 5, 4, 3, 2, 1, 0, 1, 0, 2, 3, 4, 5).bench(6, 2, 2), 14);
        due.is("none of nine judges", with(new IdleCrimes(), rankings(6, 9)).bench(6, 9, 2), 0);
    }

    // ---- likely and grave

    private static void likelyIs1To16() {
        due.promise("n 1 to 16; NONE: no such ones, it has not so many (the tape stays)");
        due.bounds("n", n -> with(new IdleCrimes(), new int[40]).likely(n, 0), 1, 1, 16, 0xFFFF, -1);
        IdleCrimes x = with(new IdleCrimes(), new int[20]);
        due.is("22 bytes of 20", x.likely(11, 0), -1);
        due.is("the tape stays", x.count(7), 20);
        due.is("20 bytes of 20", x.likely(10, 0), 1023);
        due.is("empty then", x.count(7), 0);
        due.is("no tape", x.likely(1, 0), -1);
    }

    private static void likelyWhat() {
        due.promise("what 0 bits, 1 the product, 2 whose; NONE: no such ones");
        due.bounds("what", what -> with(new IdleCrimes(), 1, 1, 9, 9).likely(2, what), 0, 2, 2, 1, -1);
        due.is("what 1", with(new IdleCrimes(), 1, 1, 9, 9).likely(2, 1), 81);
        due.is("the greatest that can be", with(new IdleCrimes(), 255, 255).likely(1, 1), 65025);
        due.is("the least", with(new IdleCrimes(), 0, 255).likely(1, 1), 0);
        due.is("whose, of 0", with(new IdleCrimes(), 0, 255, 255, 0).likely(2, 2), 0);
    }

    private static int bitsOf(int... cases) {
        return with(new IdleCrimes(), cases).likely(cases.length / 2, 0);
    }

    private static void likelyNoneOtherBeats() {
        due.promise("those that none other beats in both or in one, the other one being alike (bits)");
        due.is("in both", bitsOf(5, 5, 6, 6), 0b10);
        due.is("in likely", bitsOf(5, 5, 6, 5), 0b10);
        due.is("in grave", bitsOf(5, 5, 5, 6), 0b10);
        due.is("alike in both", bitsOf(5, 5, 5, 5), 0b11);
        due.is("one more, one less", bitsOf(5, 5, 6, 4), 0b11);
        due.is("one more, many less", bitsOf(5, 255, 6, 0), 0b11);
        due.is("many more, one less", bitsOf(5, 5, 255, 4), 0b11);
        due.is("by one behind", bitsOf(6, 6, 5, 5), 0b01);
        due.is("by the last of sixteen", bitsOf(1, 1, 1, 1, 1, 1, 1, 1, 1, 1, 1, 1, 1, 1, 1, 1, 1, 1, 1, 1, 1, 1, 1, 1, 1, 1, 1, 1, 1, 1, 1, 2), 0x8000);
        due.is("255 and 0", bitsOf(255, 0, 0, 255, 255, 255), 0b100);
    }

    private static void likelyOfLikeOnes() {
        due.promise("the greatest product; whose (of like ones the lowest)");
        due.is("the first", with(new IdleCrimes(), 9, 9, 5, 5, 1, 1).likely(3, 2), 0);
        due.is("the one between", with(new IdleCrimes(), 5, 5, 9, 9, 1, 1).likely(3, 2), 1);
        due.is("of like ones", with(new IdleCrimes(), 1, 1, 2, 6, 6, 2, 3, 4).likely(4, 2), 1);
        due.is("the last", with(new IdleCrimes(), 1, 1, 2, 6, 6, 2, 1, 13).likely(4, 2), 3);
        due.is("all of 0", with(new IdleCrimes(), 0, 0, 0, 0).likely(2, 2), 0);
    }

    // ---- shares

    private static void shareIs1To12() {
        due.promise("n 1 to 12; NONE: no such ones, it has not so many (the tape stays)");
        int[] ones = new int[40];
        for (int i = 0; i < 40; i++) {
            ones[i] = 1;
        }
        due.bounds("n", n -> with(new IdleCrimes(), ones).share(n, 0), 1, 1, 12, 12, -1);
        IdleCrimes x = with(new IdleCrimes(), 1, 1);
        due.is("22 bytes of 20", x.share(11, 0), -1);
        due.is("the tape stays", x.count(7), 20);
        due.is("20 bytes of 20", x.share(10, 0), 1);
        due.is("empty then", x.count(7), 0);
        due.is("no tape", x.share(1, 0), -1);
    }

    private static void shareOfConstables0To7() {
        due.promise("CONSTABLE c (0 to 7): pence; NONE: no such ones");
        due.bounds("c", c -> with(new IdleCrimes(), 80, 255).share(1, c), 0, 10, 7, 10, -1);
        IdleCrimes x = with(new IdleCrimes(), 80, 255);
        due.is("constable 8", x.share(1, 8), -1);
        due.is("the tape stays", x.count(7), 20);
    }

    private static void shareOfEachSize() {
        due.promise("1 to 12 prizes, each so much (0 to 255); a prize for nobody is lost: what one gets in all");
        due.is("0 for one", with(new IdleCrimes(), 0, 1).share(1, 0), 0);
        due.is("255 for one", with(new IdleCrimes(), 255, 1).share(1, 0), 255);
        due.is("255 for the last one", with(new IdleCrimes(), 255, 128).share(1, 7), 255);
        due.is("255 for nobody", with(new IdleCrimes(), 255, 0).share(1, 0), 0);
        due.is("255 for another one", with(new IdleCrimes(), 255, 2).share(1, 0), 0);
        due.is("all twelve", with(new IdleCrimes(), 255, 1, 255, 1, 255, 1, 255, 1, 255, 1, 255, 1, 255, 1, 255, 1, 255, 1, 255, 1, 255, 1, 255, 1)
            .share(12, 0), 12 * 255);
        due.is("lost ones between", with(new IdleCrimes(), 7, 1, 255, 0, 5, 1).share(3, 0), 12);
    }

    private static void sharePenceThatAreLeft() {
        due.promise("each part is alike, pence that are left go one each to the lowest of them");
        for (int prize = 0; prize < 256; prize++) {
            int sum = 0;
            for (int c = 0; c < 8; c++) {
                int pence = with(new IdleCrimes(), prize, 255).share(1, c);
                due.is(prize + " of eight for " + c, pence, prize / 8 + Due.bit(c < prize % 8));
                sum += pence;
            }
            due.is("in all", sum, prize);
        }
        int[] pence = {0, 34, 0, 33, 0, 33, 0, 0};
        for (int c = 0; c < 8; c++) {
            due.is("100 of 1, 3, 5 for " + c, with(new IdleCrimes(), 100, 0b101010).share(1, c), pence[c]);
        }
    }

    // ---- odds

    private static void oddsAre1To9() {
        due.promise("n 1 to 9; NONE: no such ones, it has not so many (the tape stays)");
        due.bounds("n", n -> with(new IdleCrimes(), 1, 1, 1, 1, 1, 1, 1, 1, 1, 1, 1, 1).odds(n, 1), 1, 10, 9, 1000000000, -1);
        IdleCrimes x = new IdleCrimes();
        due.is("no tape", x.odds(1, 0), -1);
        Due.bytes(x, 1);
        due.is("ten of twenty", x.odds(10, 0), -1);
        due.is("the tape stays", x.count(7), 20);
        due.is("nine of twenty", x.odds(9, 0), 0);
        due.is("empty then", x.count(7), 0);
    }

    private static void oddsWhat() {
        due.promise("what 0, 1 all (above, below the line), 2, 3 none, 4, 5 one at least; NONE: no such ones");
        due.bounds("what", what -> with(new IdleCrimes(), 3, 3).odds(2, what), 0, 9, 5, 100, -1);
        int[] answers = {9, 100, 49, 100, 51, 100};
        for (int what = 0; what < 6; what++) {
            due.is("what " + what, with(new IdleCrimes(), 3, 3).odds(2, what), answers[what]);
        }
    }

    private static void oddsTenthsAbove10() {
        due.promise("tenths (0 to 10); -2: tenths above 10");
        for (int b = 0; b < 256; b++) {
            for (int what = 0; what < 6; what++) {
                int answer = with(new IdleCrimes(), b).odds(1, what);
                due.is(b + " tenths, " + what, answer < 0 ? answer : 0, b > 10 ? -2 : 0);
            }
        }
        IdleCrimes x = with(new IdleCrimes(), 1, 1, 1, 1, 1, 1, 1, 1, 11);
        due.is("the last of nine", x.odds(9, 5), -2);
        due.is("empty then", x.count(7), 0);
        due.is("one behind the last", with(new IdleCrimes(), 1, 1, 11).odds(2, 0), 1);
        due.is("NONE ahead of -2", with(new IdleCrimes(), 11).odds(1, 6), -1);
    }

    private static void areOdds(int[] tenths, int... answers) {
        for (int what = 0; what < 6; what++) {
            due.is("what " + what + " of " + tenths.length, with(new IdleCrimes(), tenths).odds(tenths.length, what), answers[what]);
        }
    }

    private static void oddsWithoutACommonDivisor() {
        due.promise("that all happen, that none does, that one at least does: fractions without a common divisor");
        areOdds(new int[] {0}, 0, 1, 1, 1, 0, 1);
        areOdds(new int[] {10}, 1, 1, 0, 1, 1, 1);
        areOdds(new int[] {5}, 1, 2, 1, 2, 1, 2);
        areOdds(new int[] {1}, 1, 10, 9, 10, 1, 10);
        areOdds(new int[] {4, 5}, 1, 5, 3, 10, 7, 10);
        areOdds(new int[] {0, 10}, 0, 1, 0, 1, 1, 1);
        areOdds(new int[] {0, 0, 0, 0, 0, 0, 0, 0, 0}, 0, 1, 1, 1, 0, 1);
        areOdds(new int[] {10, 10, 10, 10, 10, 10, 10, 10, 10}, 1, 1, 0, 1, 1, 1);
        areOdds(new int[] {5, 5, 5, 5, 5, 5, 5, 5, 5}, 1, 512, 1, 512, 511, 512);
        areOdds(new int[] {9, 9, 9, 9, 9, 9, 9, 9, 9}, 387420489, 1000000000, 1, 1000000000, 999999999, 1000000000);
        areOdds(new int[] {8, 8, 8, 8, 8, 8, 8, 8, 8}, 262144, 1953125, 1, 1953125, 1953124, 1953125);
    }

    // ---- check

    private static void checkIs0To16() {
        due.promise("CHECK by the first n bytes of the tape (0 to 16; empty then); -2: no such n, it has not so many (the tape stays)");
        int[] right = new int[20];
        for (int p = 0; p < 16; p++) {
            right[p] = p;
        }
        due.bounds("n", n -> with(row(16), right).check(n), 0, -1, 16, -1, -2);
        IdleCrimes x = row(16);
        due.is("not so many", x.check(1), -2);
        due.is("0 of none", x.check(0), -1);
        Due.bytes(x, right);
        due.is("17", x.check(17), -2);
        due.is("the tape stays", x.count(7), 20);
        due.is("0", x.check(0), -1);
        due.is("empty then", x.count(7), 0);
    }

    private static void checkTheFirstThatIsNotSo() {
        due.promise("NONE: right; else the first that is not so (of PLACES that are not told 255)");
        for (int wrong = 0; wrong < 16; wrong++) {
            int[] bytes = new int[16];
            for (int p = 0; p < 16; p++) {
                bytes[p] = p < 8 ? p : 255;
            }
            bytes[wrong] = 77;
            due.is("wrong at " + wrong, with(row(8), bytes).check(16), wrong);
            due.is("ahead of it", with(row(8), bytes).check(wrong), -1);
            bytes[15] = 78;
            due.is("the first", with(row(8), bytes).check(16), wrong);
        }
        due.is("not told and 0", with(new IdleCrimes(), 0).check(1), 0);
        due.is("not told and 254", with(new IdleCrimes(), 254).check(1), 0);
        due.is("not told and 255", with(new IdleCrimes(), 255).check(1), -1);
        due.is("told and 255", with(row(1), 255).check(1), 0);
        IdleCrimes x = row(1);
        x.place(0, 99, 0);
        due.is("99", with(x, 99).check(1), -1);
        due.is("100", with(x, 100).check(1), 0);
    }

    private static void firstBytesOfTheTape() {
        due.promise("by the first bytes of the tape: of all that it has");
        IdleCrimes x = row(3);
        Due.bytes(x, 10, 10, 10);
        Due.bytes(x, 1, 1, 1);
        due.is("two feeds", x.count(7), 40);
        due.is("the first ones", x.odds(3, 1), 1);
        due.is("all are gone", x.count(7), 0);
        int[] full = new int[260];
        full[0] = 7;
        Due.bytes(x, full);
        due.is("full", x.count(7), 260);
        due.is("the first of a full one", x.likely(1, 1), 0);
        due.is("all are gone, too", x.count(7), 0);
    }
}
