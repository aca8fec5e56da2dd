/** Promises 8 to 15, 30 and 31: hours that go by or are tried, and what is kept. With the seed 1 the draws are 2 7 6 5 2 9 6 7 2 9 6. */
public final class HoursTest {
    private static final Due due = new Due();

    public static void main(String[] args) {
        hoursAndDraws();
        hoursEnd();
        crimesEnd();
        deductedEnds();
        walks();
        letters();
        lettersAmongPlaces();
        arithmetic();
        firstRuleAndBounds();
        refusals();
        shortWays();
        safePlaces();
        triedHours();
        triedBounds();
        placeIsAndSince();
        aloneRows();
        togetherFirst();
        seenPlaces();
        quietRows();
        keptAndUndone();
        keptAgain();
        due.tell();
    }

    private static IdleCrimes withPlaces(int n) {
        IdleCrimes x = new IdleCrimes();
        for (int p = 0; p < n; p++) {
            x.place(p, 10 * p % 100, p + 1);
        }
        return x;
    }

    private static void hoursAndDraws() {
        due.promise("promise 8");
        IdleCrimes x = new IdleCrimes();
        x.place(0, 0, 10);
        due.is("no law, no crimes", x.hours(1), 0);
        due.is("but a draw", x.count(8), 39022);
        x.seed(1);
        Due.law(x, "r3(1=1)");
        due.is("hours(0)", x.hours(0), -1);
        due.is("hours(-1)", x.hours(-1), -1);
        due.is("hours(241)", x.hours(241), -1);
        due.is("nothing is changed", x.count(0), 1);
        due.is("2 7 6 5 2", x.hours(5), 2);
        due.is("crimes", x.count(1), 2);
        due.is("deducted", x.count(2), 20);
        due.is("since", x.placeIs(0, 2), 6);
        due.is("a draw each", x.count(8), 3882);
        x.seed(1);
        Due.law(x, "r2(1=1)");
        due.is("2 is not below 2", x.hours(1), 0);
        x = withPlaces(3);
        Due.law(x, "r10(p=1)");
        due.is("three draws an hour", x.hours(1), 1);
        due.is("the third", x.count(8), 20196);
        due.is("gravity of b", x.count(2), 2);
    }

    private static void hoursEnd() {
        due.promise("promise 8, THE HOUR at most 9999");
        IdleCrimes x = withPlaces(1);
        Due.law(x, "r10(1=1)");
        for (int i = 0; i < 41; i++) {
            due.is("hours(240)", x.hours(240), 240);
        }
        due.is("as many as can", x.hours(240), 159);
        due.is("THE HOUR", x.count(0), 9999);
        due.is("none goes by", x.hours(240), 0);
        due.is("nor is tried", x.tried(5, 0), 0);
        due.is("quiet", x.quiet(5), 0);
        due.is("alone", x.alone(0, 5), 0);
        due.is("seen", x.seen(5), 0);
        due.is("crimes", x.count(1), 9999);
        due.is("since", x.placeIs(0, 2), 99);
    }

    private static void crimesEnd() {
        due.promise("promise 8, CRIMES at most 9999");
        IdleCrimes x = withPlaces(16);
        Due.law(x, "r10(1=1)");
        due.is("hours(240)", x.hours(240), 3840);
        due.is("hours(240) again", x.hours(240), 3840);
        due.is("hours(144)", x.hours(144), 2304);
        due.is("crimes", x.count(1), 9984);
        due.is("hours(1)", x.hours(1), 16);
        due.is("crimes at most", x.count(1), 9999);
        due.is("they are done all the same", x.hours(2), 32);
        due.is("and tried", x.tried(1, 0), 16);
        due.is("crimes still", x.count(1), 9999);
    }

    private static void deductedEnds() {
        due.promise("promise 8, DEDUCTED at most 999999");
        IdleCrimes x = new IdleCrimes();
        for (int p = 0; p < 16; p++) {
            x.place(p, 0, 999);
        }
        Due.law(x, "r10(1=1)");
        x.hours(62);
        due.is("deducted", x.count(2), 62 * 16 * 999);
        due.is("how much more can be", x.tried(1, 2), 999999 - 62 * 16 * 999);
        x.hours(1);
        due.is("at most", x.count(2), 999999);
        due.is("no more", x.tried(9, 2), 0);
    }

    private static void walks() {
        due.promise("promise 8, beats");
        IdleCrimes x = withPlaces(4);
        Due.pleas(x, "a&b;b&c");
        x.constable(0, 0);
        Due.beat(x, 0, "bcpd.ab");
        int[] places = {1, 2, 2, 2, 2, 2, 1, 1, 2, 2};
        for (int h = 0; h < places.length; h++) {
            due.is("tried " + (h + 1), x.tried(h + 1, 10), places[h]);
        }
        for (int h = 0; h < places.length; h++) {
            x.hours(1);
            due.is("hour " + h, x.constableIs(0, 0), places[h]);
        }
        x = withPlaces(2);
        Due.pleas(x, "a&b");
        x.constable(0, 0);
        x.hours(1);
        Due.beat(x, 0, "ba");
        x.hours(1);
        due.is("by THE HOUR: the second step first", x.constableIs(0, 0), 0);
        x.hours(1);
        due.is("then the first one", x.constableIs(0, 0), 1);
        Due.beat(x, 1, "2(b)");
        x.hours(3);
        due.is("who is not told goes nowhere", x.count(4), 1);
    }

    private static void letters() {
        due.promise("promise 8, letters");
        IdleCrimes x = new IdleCrimes();
        x.place(5, 30, 40);
        x.constable(2, 5);
        x.constable(3, 5);
        String[] sums = {"p", "t", "g", "c", "n", "l", "d", "h", "[p+t]", "12345", "0-5"};
        int[] pence = {5, 30, 40, 2, 0, 0, 0, 0, 35, 99, 0};
        for (int i = 0; i < sums.length; i++) {
            Due.law(x, "w" + sums[i] + "(1=1)");
            due.is(sums[i] + " each", x.tried(1, 22), pence[i]);
            due.is(sums[i] + " in all", x.tried(1, 1), 2 * pence[i]);
        }
        Due.law(x, "wh(1=1)");
        due.is("h modulo 24", x.tried(30, 23), 276 + 15);
        x = new IdleCrimes();
        x.place(1, 0, 0);
        Due.law(x, "r10(l=3)");
        due.is("l counts the hour that goes", x.hours(2), 0);
        due.is("l is 3", x.hours(1), 1);
        due.is("l is 4", x.hours(9), 0);
        Due.law(x, "r10(d=1)");
        due.is("d is 1", x.hours(1), 1);
        due.is("d is 2", x.hours(5), 0);
    }

    private static void lettersAmongPlaces() {
        due.promise("promise 8, letters among places");
        IdleCrimes x = withPlaces(4);
        Due.pleas(x, "a&b;b&c;c&d");
        x.constable(0, 0);
        x.constable(1, 2);
        x.constable(2, 2);
        Due.law(x, "r10(n=3)");
        due.is("n of b", x.tried(1, 0), 1);
        due.is("its gravity", x.tried(1, 2), 2);
        Due.law(x, "r10(n=2&c=0)");
        due.is("n of d", x.tried(1, 2), 4);
        Due.law(x, "wc(1=1)");
        due.is("c of a", x.tried(1, 20), 1);
        due.is("c of c", x.tried(1, 21), 2);
        Due.law(x, "r10(d=0)");
        due.is("d grows in the hour", x.tried(9, 0), 1);
        Due.law(x, "r10(1=1);wd(1=1)");
        due.is("w is asked then", x.tried(1, 1), 2);
        Due.beat(x, 0, "b");
        Due.law(x, "r10(c=0)");
        due.is("asked behind the steps", x.tried(1, 2), 1 + 4);
    }

    private static void arithmetic() {
        due.promise("promise 8, arithmetic");
        IdleCrimes x = new IdleCrimes();
        x.place(0, 0, 0);
        x.constable(0, 0);
        String[] sums = {"7-3-2", "100/10*2", "7%4*2", "2+3*4", "[2+3]*4", "20-2*3", "90/[2+1]/3", "7/2", "[0-7]/2+10", "[0-7]%3+10",
            "2*[3+[4-1]]%5", "1+2%2", "00012"};
        int[] due1 = {2, 20, 6, 14, 20, 14, 10, 3, 7, 9, 2, 1, 12};
        for (int i = 0; i < sums.length; i++) {
            Due.law(x, "w" + sums[i] + "(1=1)");
            due.is(sums[i], x.tried(1, 1), due1[i]);
        }
        String[] tests = {"50000*50000<0", "65536*32768<0", "[65536*32768]/[0-1]<0", "[65536*32768]%[0-1]=0", "65536*65536=0",
            "65536*32768-1>0", "1<1", "1>1", "1=1", "!1=1", "!!1=1", "1=2|1=1", "1=1|1=2&1=2", "1=2&1=1|1=1", "1=2&(1=1|1=1)",
            "!1=2&1=1", "!(1=2|1=1)", "(1=1)&(2=2)", "!(1=2)&!(2=3|3=4)", "1=2|2=3|3=3", "1=1&2=2&3=4"};
        int[] holds = {1, 1, 1, 1, 1, 1, 0, 0, 1, 0, 1, 1, 1, 1, 0, 1, 0, 1, 1, 1, 0};
        for (int i = 0; i < tests.length; i++) {
            Due.law(x, "w1(" + tests[i] + ")");
            due.is(tests[i], x.tried(1, 1), holds[i]);
        }
    }

    private static void firstRuleAndBounds() {
        due.promise("promise 8, rules");
        IdleCrimes x = withPlaces(3);
        x.constable(0, 1);
        Due.law(x, "w3(p=0);w4(p=1);w5(1=1)");
        due.is("the first that holds", x.tried(1, 1), 4);
        Due.law(x, "w3(p=0);w4(p=2)");
        due.is("none", x.tried(1, 1), 0);
        Due.law(x, "w99999(p=1)");
        due.is("99 at most", x.tried(1, 1), 99);
        Due.law(x, "w0-1(p=1)");
        due.is("0 at least", x.tried(1, 1), 0);
        Due.law(x, "r0-1(p=0);r11(1=1)");
        due.is("r's bounds", x.tried(20, 0), 20);
        Due.law(x, "r0(p=0);r10(p=0)");
        due.is("the first one, even of 0", x.tried(20, 0), 0);
    }

    private static void refusals() {
        due.promise("promise 8, what is divided by 0");
        IdleCrimes x = withPlaces(3);
        Due.law(x, "r10(1/p=1|1=1)");
        due.is("the whole C does not hold", x.tried(1, 2), 2 + 3);
        Due.law(x, "r10(!(!1%p=7))");
        due.is("nor within !", x.tried(1, 2), 0);
        Due.law(x, "r10(!1%p=7)");
        due.is("nor behind !", x.tried(1, 2), 2 + 3);
        Due.law(x, "r10(1/p=1|1=1);r10(p=0)");
        due.is("the next rule is asked", x.tried(1, 2), 1 + 2 + 3);
        Due.law(x, "r10+1/p(1=1);r10(1=1)");
        due.is("the E of it is 0", x.tried(1, 2), 2 + 3);
        Due.law(x, "r10+0/p*0(1=1)");
        due.is("whatever comes behind", x.tried(1, 2), 2 + 3);
        Due.law(x, "r10(1=1);s(1/p>5|1=1)");
        due.is("nor is it safe", x.tried(1, 2), 1);
    }

    private static void shortWays() {
        due.promise("promise 8, as much is asked as matters");
        IdleCrimes x = withPlaces(3);
        Due.law(x, "r10(p=0|1/p=1)");
        due.is("a PART that holds is enough", x.tried(1, 2), 1 + 2);
        Due.law(x, "r10(!(!p=0&1/p=1))");
        due.is("a TEST that does not is enough", x.tried(1, 2), 1 + 3);
        Due.law(x, "r10((p=0|1/p=1)&p<9)");
        due.is("in brackets", x.tried(1, 2), 1 + 2);
        Due.law(x, "r10(p=0&p=1&1/p=1|p=0|1/p=1)");
        due.is("over three", x.tried(1, 2), 1 + 2);
    }

    private static void safePlaces() {
        due.promise("promise 8, safe places");
        IdleCrimes x = withPlaces(3);
        x.constable(0, 0);
        Due.law(x, "s(p=0);s(p=1);r10(1=1);w9(1=1)");
        due.is("one crime", x.tried(1, 0), 1);
        due.is("no pay where it is safe", x.tried(1, 1), 0);
        x.hours(1);
        due.is("one draw", x.count(8), 39022);
        Due.law(x, "s(1=1)");
        x.hours(1);
        due.is("no draw", x.count(8), 39022);
        Due.law(x, "w9(1=1)");
        due.is("pay without a crime to fear", x.tried(1, 1), 9);
        Due.law(x, "w9(1=1);r10(1=1)");
        due.is("pay with one", x.tried(1, 1), 9);
    }

    private static void triedHours() {
        due.promise("promise 9");
        IdleCrimes x = withPlaces(3);
        x.constable(1, 0);
        Due.pleas(x, "a&b");
        Due.beat(x, 1, "b.a.");
        Due.law(x, "r3(1=1);w2(p=0);w3(1=1)");
        x.hours(1);
        due.is("X", x.count(8), 20196);
        due.is("wage", x.constableIs(1, 1), 3);
        due.is("crimes: 5 2 9 6 7 2", x.tried(2, 0), 1);
        due.is("pence", x.tried(2, 1), 3 + 2);
        due.is("deducted", x.tried(2, 2), 3);
        due.is("place", x.tried(2, 11), 0);
        due.is("wage then", x.tried(2, 21), 3 + 5);
        due.is("since at a", x.tried(1, 30), 2);
        due.is("since at a then", x.tried(2, 30), 0);
        due.is("since at c", x.tried(240, 32), 99);
        due.is("nothing is changed", x.count(0) * 100000L + x.count(8), 120196);
        due.is("nor his wage", x.constableIs(1, 1), 3);
    }

    private static void triedBounds() {
        due.promise("promise 9, no such ones");
        IdleCrimes x = withPlaces(2);
        x.constable(1, 0);
        int[] whats = {-1, 3, 9, 10, 12, 17, 18, 19, 20, 22, 28, 29, 32, 45, 46, Integer.MIN_VALUE, Integer.MAX_VALUE};
        for (int what : whats) {
            due.is("tried(1, " + what + ")", x.tried(1, what), -1);
        }
        due.is("tried(0, 0)", x.tried(0, 0), -1);
        due.is("tried(241, 0)", x.tried(241, 0), -1);
        due.is("tried(240, 11)", x.tried(240, 11), 0);
        due.is("tried(240, 31)", x.tried(240, 31), 99);
        x.place(15, 1, 1);
        x.constable(0, 1);
        x.constable(7, 15);
        Due.law(x, "wp(1=1)");
        due.is("tried(1, 10)", x.tried(1, 10), 1);
        due.is("tried(1, 17)", x.tried(1, 17), 15);
        due.is("tried(1, 20)", x.tried(1, 20), 1);
        due.is("tried(1, 27)", x.tried(1, 27), 15);
        due.is("tried(1, 45)", x.tried(1, 45), 0);
    }

    private static void placeIsAndSince() {
        due.promise("promise 10");
        IdleCrimes x = withPlaces(3);
        x.constable(0, 1);
        x.constable(4, 1);
        due.is("temptation", x.placeIs(2, 0), 20);
        due.is("gravity", x.placeIs(2, 1), 3);
        due.is("constables", x.placeIs(1, 3), 0x11);
        due.is("nobody", x.placeIs(0, 3), 0);
        x.hours(7);
        due.is("since", x.placeIs(0, 2), 7);
        due.is("since where they are", x.placeIs(1, 2), 0);
        x.constable(1, 0);
        due.is("since till an hour goes by", x.placeIs(0, 2), 7);
        x.hours(1);
        due.is("since then", x.placeIs(0, 2), 0);
        due.is("what 5", x.placeIs(0, 5), -1);
        due.is("what -1", x.placeIs(0, -1), -1);
        due.is("not told", x.placeIs(3, 0), -1);
        due.is("place -1", x.placeIs(-1, 0), -1);
        due.is("place 16", x.placeIs(16, 0), -1);
        due.promise("promise 11");
        Due.beat(x, 4, "9a");
        due.is("place", x.constableIs(4, 0), 1);
        due.is("wage", x.constableIs(4, 1), 0);
        due.is("steps", x.constableIs(4, 2), 9);
        due.is("no steps", x.constableIs(0, 2), 0);
    }

    private static void aloneRows() {
        due.promise("promise 12");
        IdleCrimes x = withPlaces(2);
        Due.pleas(x, "a&b");
        x.constable(0, 0);
        Due.beat(x, 0, "b2.a4.");
        due.is("a, 2 hours", x.alone(0, 2), 2);
        due.is("a, 9 hours", x.alone(0, 9), 3);
        due.is("b, 9 hours", x.alone(1, 9), 5);
        due.is("b, 3 hours", x.alone(1, 3), 0);
        due.is("b, 5 hours", x.alone(1, 5), 2);
        due.is("nothing is changed", x.count(0), 0);
        due.is("not told", x.alone(2, 3), -1);
        due.is("no hours", x.alone(0, 0), -1);
        due.is("241", x.alone(0, 241), -1);
        due.is("place -1", x.alone(-1, 3), -1);
    }

    private static void togetherFirst() {
        due.promise("promise 13");
        IdleCrimes x = withPlaces(3);
        Due.pleas(x, "a&b;b&c");
        x.constable(0, 0);
        x.constable(5, 2);
        Due.beat(x, 0, ".b");
        due.is("not in one", x.together(0, 5, 1), -2);
        Due.beat(x, 5, "..b");
        due.is("behind three", x.together(0, 5, 240), 3);
        due.is("the other way", x.together(5, 0, 3), 3);
        due.is("not in two", x.together(5, 0, 2), -2);
        x.constable(5, 0);
        due.is("now", x.together(0, 5, 1), 0);
        due.is("the same", x.together(0, 0, 1), -1);
        due.is("not told", x.together(0, 1, 1), -1);
        due.is("not told, first", x.together(1, 0, 1), -1);
        due.is("no such", x.together(8, 0, 1), -1);
        due.is("no hours", x.together(0, 5, 0), -1);
        due.is("241", x.together(0, 5, 241), -1);
    }

    private static void seenPlaces() {
        due.promise("promise 14");
        IdleCrimes x = withPlaces(4);
        Due.pleas(x, "a&b;b&c;c&d");
        due.is("nobody", x.seen(9), 0);
        x.constable(0, 0);
        Due.beat(x, 0, "bcd");
        due.is("one hour: not where he is now", x.seen(1), 2);
        due.is("two", x.seen(2), 6);
        due.is("three", x.seen(3), 14);
        x.constable(1, 0);
        due.is("another one", x.seen(1), 3);
        due.is("no hours", x.seen(0), -1);
        due.is("241", x.seen(241), -1);
    }

    private static void quietRows() {
        due.promise("promise 15");
        IdleCrimes x = withPlaces(1);
        Due.law(x, "r3(1=1)");
        due.is("2", x.quiet(1), 0);
        due.is("2 7 6", x.quiet(3), 2);
        due.is("2 7 6 5 2 9 6 7", x.quiet(8), 3);
        due.is("nothing is changed", x.count(8), 1);
        due.is("no hours", x.quiet(0), -1);
        due.is("241", x.quiet(241), -1);
        due.is("without places", new IdleCrimes().quiet(240), 240);
    }

    private static void keptAndUndone() {
        due.promise("promises 30, 31");
        IdleCrimes x = withPlaces(3);
        due.is("none was KEPT", x.undo(), false);
        x.constable(0, 0);
        Due.law(x, "r10(1=1);w5(1=1)");
        x.hours(4);
        due.is("keep()", x.keep(), 4);
        long before = all(x);
        x.hours(7);
        x.place(1, 99, 99);
        x.place(9, 77, 66);
        x.constable(0, 2);
        x.constable(3, 1);
        Due.pleas(x, "a&b;c+9;c=9");
        Due.beat(x, 0, "b");
        x.seed(5);
        x.feed(0, 0, 0, 0, 0);
        due.is("undo()", x.undo(), true);
        due.is("as it was", all(x), before);
        due.is("temptation of b", x.placeIs(1, 0), 10);
        due.is("gravity of c", x.placeIs(2, 1), 3);
        due.is("constables", x.count(4), 1);
        due.is("at", x.constableIs(0, 0), 0);
        due.is("told places stay", x.count(3), 0x207);
        due.is("next stays", x.placeIs(0, 4), 2);
        due.is("beats stay", x.constableIs(0, 2), 1);
        due.is("the law stays", x.count(6), 2);
        due.is("the tape stays", x.count(7), 20);
    }

    private static long all(IdleCrimes x) {
        long sum = 0;
        int[] whats = {0, 1, 2, 4, 5, 8};
        for (int what : whats) {
            sum = sum * 1009 + x.count(what);
        }
        for (int p = 0; p < 3; p++) {
            for (int what = 0; what < 4; what++) {
                sum = sum * 1009 + x.placeIs(p, what);
            }
        }
        return sum * 1009 + x.constableIs(0, 1);
    }

    private static void keptAgain() {
        due.promise("promises 30, 31, again");
        IdleCrimes x = withPlaces(1);
        x.keep();
        x.hours(3);
        due.is("keep()", x.keep(), 3);
        x.hours(9);
        due.is("undo()", x.undo(), true);
        due.is("the last one", x.count(0), 3);
        x.hours(2);
        due.is("undo() again", x.undo(), true);
        due.is("once more", x.count(0), 3);
        due.is("since", x.placeIs(0, 2), 3);
    }
}
