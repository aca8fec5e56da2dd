/** The bounds of what is told: the first part of "Terms", promises 1 to 4 and 29. Each method is a sentence of the document. */
public final class BoundsToldTest {
    private static final Due due = new Due();

    public static void main(String[] args) {
        placesAreSixteen();
        temptationIs0To99();
        gravityIs0To999();
        placesAreNotNextAtFirst();
        placesAreToldOnceOrAgain();
        constablesAreEight();
        constableIsAtAToldPlace();
        constableInPlaceOfTheOneBefore();
        wageIs0AtFirst();
        wageGrowsToTheLastHour();
        beatIsNoneAtFirst();
        deductedIs999999AtMost();
        deductedReachesItsBoundAtOnce();
        crimesAre9999AtMost();
        hoursSinceAre99AtMost();
        theHourIs9999AtMost();
        lawIsNoneAtFirst();
        tapeHas260AtMost();
        tapeIsFilledAgain();
        feedTakesTheHighestByteFirst();
        seedIs0To65535();
        newObjectHasNothing();
        due.tell();
    }

    private static IdleCrimes town(int places, int gravity) {
        IdleCrimes x = new IdleCrimes();
        for (int p = 0; p < places; p++) {
            x.place(p, 0, gravity);
        }
        return x;
    }

    private static void placesAreSixteen() {
        due.promise("PLACES a to p (0 to 15); false: no such ones");
        due.bounds("place", p -> Due.bit(new IdleCrimes().place(p, 1, 1)), 0, 1, 15, 1, 0);
        due.bounds("placeIs", p -> town(16, 3).placeIs(p, 1), 0, 3, 15, 3, -1);
        IdleCrimes x = new IdleCrimes();
        int bits = 0;
        for (int p = 0; p < 16; p++) {
            due.is("not told", x.placeIs(p, 0), -1);
            due.is("place " + p, x.place(p, p, p), true);
            bits |= 1 << p;
            due.is("told", x.count(3), bits);
            due.is("told then", x.placeIs(p, 0), p);
        }
    }

    private static void temptationIs0To99() {
        due.promise("TEMPTATION (0 to 99)");
        due.bounds("place", t -> Due.bit(new IdleCrimes().place(4, t, 1)), 0, 1, 99, 1, 0);
        for (int t = 0; t <= 99; t += 99) {
            IdleCrimes x = new IdleCrimes();
            x.place(4, t, 1);
            due.is("it is", x.placeIs(4, 0), t);
        }
    }

    private static void gravityIs0To999() {
        due.promise("GRAVITY (0 to 999)");
        due.bounds("place", g -> Due.bit(new IdleCrimes().place(4, 1, g)), 0, 1, 999, 1, 0);
        for (int g = 0; g <= 999; g += 999) {
            IdleCrimes x = new IdleCrimes();
            x.place(4, 1, g);
            due.is("it is", x.placeIs(4, 1), g);
        }
    }

    private static void placesAreNotNextAtFirst() {
        due.promise("two told ones are NEXT to each other or not (not at first)");
        IdleCrimes x = town(16, 1);
        for (int p = 0; p < 16; p++) {
            due.is("next to " + p, x.placeIs(p, 4), 0);
        }
        due.is("lanes", x.lanes(0), 0);
    }

    private static void placesAreToldOnceOrAgain() {
        due.promise("A PLACE (told once or again): true");
        IdleCrimes x = town(2, 1);
        Due.pleas(x, "a&b");
        x.constable(0, 1);
        x.hours(5);
        due.is("again", x.place(0, 99, 999), true);
        due.is("temptation", x.placeIs(0, 0), 99);
        due.is("gravity", x.placeIs(0, 1), 999);
        due.is("hours since stay", x.placeIs(0, 2), 5);
        due.is("next stays", x.placeIs(0, 4), 2);
        due.is("again, alike", x.place(0, 99, 999), true);
        due.is("places", x.count(3), 3);
        due.is("where he is", x.place(1, 7, 7), true);
        due.is("he stays", x.placeIs(1, 3), 1);
    }

    private static void constablesAreEight() {
        due.promise("CONSTABLES 0 to 7; false: no such ones");
        due.bounds("constable", c -> Due.bit(town(1, 1).constable(c, 0)), 0, 1, 7, 1, 0);
        IdleCrimes x = town(1, 1);
        int bits = 0;
        for (int c = 0; c < 8; c++) {
            due.is("not told", x.constableIs(c, 0), -1);
            due.is("constable " + c, x.constable(c, 0), true);
            bits |= 1 << c;
            due.is("told", x.count(4), bits);
            due.is("at a", x.placeIs(0, 3), bits);
        }
        due.bounds("constableIs", c -> x.constableIs(c, 0), 0, 0, 7, 0, -1);
    }

    private static void constableIsAtAToldPlace() {
        due.promise("A CONSTABLE at a told PLACE; false: no such ones");
        due.bounds("constable", p -> Due.bit(town(16, 1).constable(3, p)), 0, 1, 15, 1, 0);
        IdleCrimes x = town(15, 1);
        due.is("p is not told", x.constable(0, 15), false);
        due.is("nobody", x.count(4), 0);
        x.place(15, 1, 1);
        due.is("p is told", x.constable(0, 15), true);
    }

    private static void constableInPlaceOfTheOneBefore() {
        due.promise("in place of the one before: WAGE 0; the BEAT stays");
        IdleCrimes x = town(2, 1);
        x.constable(7, 1);
        Due.beat(x, 7, "2.");
        Due.law(x, "w99(1=1)");
        x.hours(2);
        due.is("wage", x.constableIs(7, 1), 198);
        due.is("at the same place", x.constable(7, 1), true);
        due.is("wage 0", x.constableIs(7, 1), 0);
        due.is("the beat", x.constableIs(7, 2), 2);
        due.is("wages", x.count(5), 0);
        due.is("one there", x.placeIs(1, 3), 128);
        due.is("at the other one", x.constable(7, 0), true);
        due.is("none there", x.placeIs(1, 3), 0);
        due.is("the beat still", x.constableIs(7, 2), 2);
    }

    private static void wageIs0AtFirst() {
        due.promise("a WAGE (0 at first)");
        IdleCrimes x = town(1, 1);
        for (int c = 0; c < 8; c++) {
            x.constable(c, 0);
            due.is("wage " + c, x.constableIs(c, 1), 0);
        }
        due.is("wages", x.count(5), 0);
    }

    /** 999999 can't be had: 99 pence an HOUR, and 9999 HOURS. */
    private static void wageGrowsToTheLastHour() {
        due.promise("a WAGE (999999 at most)");
        IdleCrimes x = town(1, 1);
        for (int c = 0; c < 8; c++) {
            x.constable(c, 0);
        }
        Due.law(x, "w99(1=1)");
        for (int i = 0; i < 41; i++) {
            x.hours(240);
        }
        due.is("an hour ahead of the last ones", x.constableIs(7, 1), 99 * 9840);
        due.is("tried", x.tried(240, 27), 99 * 9999);
        due.is("pence", x.tried(240, 1), 8 * 99 * 159);
        x.hours(240);
        due.is("wage", x.constableIs(0, 1), 989901);
        due.is("wages", x.count(5), 8 * 989901);
        due.is("no more", x.tried(240, 1), 0);
    }

    private static void beatIsNoneAtFirst() {
        due.promise("a BEAT (none at first)");
        IdleCrimes x = town(16, 1);
        Due.pleas(x, "a&b");
        for (int c = 0; c < 8; c++) {
            x.constable(c, 0);
            due.is("steps " + c, x.constableIs(c, 2), 0);
        }
        due.is("nobody goes", x.seen(240), 1);
    }

    private static void deductedIs999999AtMost() {
        due.promise("DEDUCTED (0 at first; 999999 at most)");
        due.is("0 at first", new IdleCrimes().count(2), 0);
        // 1001 crimes of 999 are 999999 just so
        IdleCrimes x = town(1, 999);
        Due.law(x, "r10(1=1)");
        for (int i = 0; i < 10; i++) {
            x.hours(100);
        }
        due.is("a thousand crimes", x.count(2), 999000);
        due.is("what one more deducts", x.tried(1, 2), 999);
        due.is("what two more deduct", x.tried(2, 2), 999);
        x.hours(1);
        due.is("just so", x.count(2), 999999);
        due.is("no more", x.tried(1, 2), 0);
        due.is("a crime it is", x.hours(1), 1);
        due.is("it stops", x.count(2), 999999);
        due.is("crimes go on", x.count(1), 1002);
    }

    private static void deductedReachesItsBoundAtOnce() {
        due.promise("DEDUCTED, 999999 at most: over it");
        IdleCrimes x = town(1, 999);
        Due.law(x, "r10(1=1)");
        for (int i = 0; i < 10; i++) {
            x.hours(100);
        }
        x.place(0, 0, 998);
        x.hours(1);
        due.is("one below", x.count(2), 999998);
        due.is("2 more is 1 more", x.tried(1, 2), 1);
        x.place(0, 0, 0);
        x.hours(1);
        due.is("0 more", x.count(2), 999998);
        x.place(0, 0, 999);
        x.hours(1);
        due.is("at most", x.count(2), 999999);
    }

    private static void crimesAre9999AtMost() {
        due.promise("CRIMES (0 at first; 9999 at most)");
        due.is("0 at first", new IdleCrimes().count(1), 0);
        IdleCrimes x = town(11, 0);
        Due.law(x, "r10(1=1)");
        for (int i = 0; i < 9; i++) {
            due.is("hours(101)", x.hours(101), 1111);
        }
        due.is("just so", x.count(1), 9999);
        due.is("crimes are done", x.tried(2, 0), 22);
        due.is("one is not quiet", x.quiet(1), 0);
        due.is("hours(1)", x.hours(1), 11);
        due.is("it stops", x.count(1), 9999);
        Due.law(x, "r10(d=9999&p=4)");
        due.is("d stops, too", x.hours(1), 1);
        Due.law(x, "r10(d>9999)");
        due.is("d is no more", x.hours(1), 0);
        x = town(16, 0);
        Due.law(x, "r10(1=1)");
        x.hours(240);
        x.hours(240);
        x.hours(144);
        due.is("15 below", x.count(1), 9984);
        x.hours(1);
        due.is("over it", x.count(1), 9999);
    }

    private static void hoursSinceAre99AtMost() {
        due.promise("the HOURS since a CONSTABLE was there (0 at first; 99 at most)");
        IdleCrimes x = town(2, 0);
        due.is("0 at first", x.placeIs(1, 2), 0);
        x.constable(0, 0);
        x.hours(98);
        due.is("98", x.placeIs(1, 2), 98);
        x.hours(1);
        due.is("99", x.placeIs(1, 2), 99);
        x.hours(1);
        due.is("at most", x.placeIs(1, 2), 99);
        due.is("tried", x.tried(240, 31), 99);
        due.is("where he is", x.placeIs(0, 2), 0);
        x.constable(0, 1);
        due.is("till an hour goes by", x.placeIs(1, 2), 99);
        x.hours(1);
        due.is("0", x.placeIs(1, 2), 0);
        due.is("1", x.placeIs(0, 2), 1);
        x.place(9, 0, 0);
        due.is("told later", x.placeIs(9, 2), 0);
    }

    private static void theHourIs9999AtMost() {
        due.promise("THE HOUR is one more (9999 at most: then none goes by)");
        due.is("0 at first", new IdleCrimes().count(0), 0);
        IdleCrimes x = town(1, 1);
        x.place(1, 0, 0);
        Due.pleas(x, "a&b");
        x.constable(0, 0);
        Due.beat(x, 0, "ba");
        for (int i = 0; i < 41; i++) {
            x.hours(240);
        }
        due.is("hours(158)", x.hours(158), 0);
        due.is("one is left", x.count(0), 9998);
        due.is("he is at a", x.constableIs(0, 0), 0);
        int draw = x.count(8);
        x.hours(2);
        due.is("one has gone by", x.count(0), 9999);
        due.is("his step", x.constableIs(0, 0), 1);
        due.is("since", x.placeIs(0, 2), 1);
        due.is("two draws", x.count(8), next(next(draw)));
        due.is("as many as can", x.hours(240), 0);
        due.is("none", x.count(0), 9999);
        due.is("no step", x.constableIs(0, 0), 1);
        due.is("since stays", x.placeIs(0, 2), 1);
        due.is("no draw", x.count(8), next(next(draw)));
        due.is("keep()", x.keep(), 9999);
    }

    private static int next(int x) {
        return (25173 * x + 13849) % 65536;
    }

    private static void lawIsNoneAtFirst() {
        due.promise("THE LAW (none at first)");
        IdleCrimes x = town(16, 1);
        x.constable(0, 0);
        due.is("rules", x.count(6), 0);
        due.is("no crimes", x.hours(240), 0);
        due.is("no pence", x.constableIs(0, 1), 0);
        due.is("no place is safe: draws", x.count(8) != 1, true);
    }

    private static void tapeHas260AtMost() {
        due.promise("how many it has; NONE if that would be more than 260");
        IdleCrimes x = new IdleCrimes();
        due.is("empty at first", x.count(7), 0);
        for (int i = 1; i <= 13; i++) {
            due.is("feed " + i, x.feed(i, 0, 0, 0, 0), 20 * i);
        }
        due.is("280 would be more", x.feed(1, 0, 0, 0, 0), -1);
        due.is("260 it has", x.count(7), 260);
        due.is("the first byte is as it was", x.odds(9, 0), 0);
    }

    private static void tapeIsFilledAgain() {
        due.promise("Twenty bytes come behind the tape");
        IdleCrimes x = new IdleCrimes();
        for (int i = 0; i < 13; i++) {
            x.feed(0x0A0A0A0A, 0x0A0A0A0A, 0x0A0A0A0A, 0x0A0A0A0A, 0x0A0A0A0A);
        }
        x.feed(0, 0, 0, 0, 0);
        due.is("a refused one changes none of them", x.odds(9, 0), 1);
        due.is("empty then", x.count(7), 0);
        due.is("again", x.feed(0x05010101, 0x01010101, 0x01010101, 0x01010101, 0x01010101), 20);
        due.is("behind it", x.feed(0x07080101, 0x01010101, 0x01010101, 0x01010101, 0x01010101), 40);
        // prizes: 5 for 0, then nine of 1 for 0, then 7 for 3
        due.is("the 21st byte is the second one's first", x.share(11, 3), 7);
    }

    private static void feedTakesTheHighestByteFirst() {
        due.promise("the highest of each int first");
        IdleCrimes x = new IdleCrimes();
        for (int p = 0; p < 16; p++) {
            x.place(p, 3 * p, 0);
        }
        x.feed(0x00030609, 0x0C0F1215, 0x181B1E21, 0x24272A2D, 0);
        due.is("each at its place", x.check(16), -1);
        x = new IdleCrimes();
        x.feed(0xFF00FF80, 0, 0, 0, 0);
        due.is("bytes above 127", x.likely(2, 1), 0xFF * 0x80);
        x.feed(Integer.MIN_VALUE, Integer.MAX_VALUE, -1, 0, 1);
        // 128 0, 0 0, 127 255, 255 255, 255 255, 255 255, 0 0 ..
        due.is("the least and the most int", x.likely(10, 0), 0b111000);
    }

    private static void seedIs0To65535() {
        due.promise("THE SEED (0 to 65535; X, too): true; false: no such number");
        due.bounds("seed", s -> Due.bit(new IdleCrimes().seed(s)), 0, 1, 65535, 1, 0);
        due.bounds("X", s -> {
            IdleCrimes x = new IdleCrimes();
            x.seed(s);
            return x.count(8);
        }, 0, 0, 65535, 65535, 1);
        IdleCrimes x = town(1, 1);
        x.seed(65535);
        x.hours(1);
        // 25173 times -1 and 13849, modulo 65536
        due.is("a draw behind 65535", x.count(8), 54212);
        x.seed(0);
        x.hours(1);
        due.is("a draw behind 0", x.count(8), 13849);
    }

    private static void newObjectHasNothing() {
        due.promise("No PLACES, CONSTABLES, LAW; THE SEED 1");
        IdleCrimes x = new IdleCrimes();
        due.is("as a whole", Whole.of(x), Whole.of(new IdleCrimes()));
        int[] counts = {0, 0, 0, 0, 0, 0, 0, 0, 1};
        for (int what = 0; what < 9; what++) {
            due.is("count(" + what + ")", x.count(what), counts[what]);
        }
        for (int p = 0; p < 16; p++) {
            due.is("place " + p, x.placeIs(p, 0), -1);
            due.is("constable " + p, x.constableIs(p, 0), -1);
        }
        x.place(5, 1, 1);
        x.place(5, 2, 2);
        due.is("another object has none of it", new IdleCrimes().count(3), 0);
    }
}
