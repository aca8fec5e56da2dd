/**
 * The bounds of AN HOUR, of what THE LAW says, and of promises 8 to 15, 30 and 31. Each method is a sentence of the document.
 * With the seed 1 the draws are 2 7 6 5 2 9 6 7 2 9 6.
 */
public final class BoundsHoursTest {
    private static final Due due = new Due();

    public static void main(String[] args) {
        hoursAre1To240();
        hoursAsManyAsCan();
        stepsGoToToldPlacesNextToHisOwn();
        stepsComeAheadOfHoursSince();
        drawBelowR();
        rIs0To10();
        wIs0To99();
        placesByNumbers();
        rIsAskedAhead();
        wIsAskedThen();
        noDrawWhereItIsSafe();
        withoutAnSNoneIsSafe();
        drawsWrapAround();
        theFirstRuleWhoseCHolds();
        lettersAtTheirBounds();
        hIsTheHourModulo24();
        numbersWrapAround();
        theLeastIntDivided();
        fromTheLeftOn();
        dividedBy0InC();
        dividedBy0InE();
        asMuchIsAskedAsMatters();
        triedHoursAre1To240();
        triedHoursAsManyAsCan();
        triedWhat();
        triedChangesNothing();
        aloneBounds();
        aloneAtTheEndOfHours();
        togetherBounds();
        togetherFirst();
        seenBounds();
        quietBounds();
        keepTellsTheHour();
        undoneAsKept();
        undoneWhenNoneWasKept();
        due.tell();
    }

    /** Places with GRAVITY 1, 2, 4 .. (999 at most) so that DEDUCTED tells where the crimes were. */
    private static IdleCrimes town(int places) {
        IdleCrimes x = new IdleCrimes();
        for (int p = 0; p < places; p++) {
            x.place(p, 0, Math.min(1 << p, 999));
        }
        return x;
    }

    private static IdleCrimes line(int places) {
        IdleCrimes x = town(places);
        for (int p = 1; p < places; p++) {
            Due.pleas(x, "" + (char) ('a' + p - 1) + '&' + (char) ('a' + p));
        }
        return x;
    }

    private static IdleCrimes atHour(IdleCrimes x, int hour) {
        while (x.count(0) + 240 <= hour) {
            x.hours(240);
        }
        if (x.count(0) < hour) {
            x.hours(hour - x.count(0));
        }
        return x;
    }

    // ---- AN HOUR

    private static void hoursAre1To240() {
        due.promise("HOURS (1 to 240 ..) go by: how many crimes were done; NONE: no such n");
        due.bounds("hours", n -> {
            IdleCrimes x = town(1);
            Due.law(x, "r10(1=1)");
            return x.hours(n);
        }, 1, 1, 240, 240, -1);
        IdleCrimes x = town(1);
        x.hours(1);
        due.is("one", x.count(0), 1);
        x.hours(240);
        due.is("two hundred and forty more", x.count(0), 241);
        x.hours(0);
        x.hours(241);
        due.is("none more", x.count(0), 241);
        due.is("without places they go by, too", new IdleCrimes().hours(240), 0);
    }

    private static void hoursAsManyAsCan() {
        due.promise("HOURS (.. as many as can)");
        for (int left = 0; left <= 3; left++) {
            IdleCrimes x = town(1);
            atHour(x, 9999 - left);
            Due.law(x, "r10(1=1)");
            due.is(left + " are left", x.hours(3), left);
            due.is("then", x.count(0), 9999);
        }
    }

    private static void stepsGoToToldPlacesNextToHisOwn() {
        due.promise("goes to the PLACE of its STEP, if it is told and NEXT to his own one (else he stays)");
        IdleCrimes x = line(3);
        x.constable(0, 0);
        String[] steps = {"b", "c", "d", "a", ".", "p"};
        int[] places = {1, 0, 0, 0, 0, 0};
        for (int i = 0; i < steps.length; i++) {
            Due.beat(x, 0, steps[i]);
            due.is(steps[i], x.tried(1, 10), places[i]);
        }
        Due.beat(x, 0, "cbc");
        due.is("he stays, and then goes on", x.tried(3, 10), 2);
        Due.beat(x, 0, "b");
        Due.pleas(x, "a/b");
        due.is("no longer next", x.tried(1, 10), 0);
        x = line(2);
        for (int c = 0; c < 8; c++) {
            x.constable(c, 0);
            Due.beat(x, c, "b");
        }
        x.hours(1);
        due.is("all eight go", x.placeIs(1, 3), 255);
    }

    private static void stepsComeAheadOfHoursSince() {
        due.promise("(1) .. (2) HOURS since of each told PLACE: 0 where a CONSTABLE is, else one more");
        IdleCrimes x = line(2);
        x.constable(0, 0);
        Due.beat(x, 0, "b");
        x.hours(1);
        due.is("where he was", x.placeIs(0, 2), 1);
        due.is("where he is", x.placeIs(1, 2), 0);
        x.hours(1);
        due.is("where he was, then", x.placeIs(0, 2), 2);
        due.is("where he is, then", x.placeIs(1, 2), 0);
    }

    private static void drawBelowR() {
        due.promise("with a DRAW below r .. a crime is done");
        int[] draws = {2, 7, 6, 5, 2, 9, 6, 7, 2, 9, 6};
        for (int r = 0; r <= 10; r++) {
            IdleCrimes x = town(1);
            Due.law(x, "r" + r + "(1=1)");
            for (int h = 0; h < draws.length; h++) {
                due.is("r " + r + ", hour " + h, x.hours(1), draws[h] < r ? 1 : 0);
            }
        }
    }

    private static void rIs0To10() {
        due.promise("r tenths (0 to 10): beyond its bounds the bound; none: 0");
        String[] says = {"0", "0-1", "0-99999", "1-2*99999*99999", "10", "11", "99999", "9+1", "99999*9"};
        int[] crimes = {0, 0, 0, 0, 40, 40, 40, 40, 40};
        for (int i = 0; i < says.length; i++) {
            IdleCrimes x = town(1);
            Due.law(x, "r" + says[i] + "(1=1)");
            // 99999 * 99999 is 1409865409 in 32 bits, two of it is less than none
            int want = says[i].startsWith("1-") ? 40 : crimes[i];
            due.is("r " + says[i], x.tried(40, 0), want);
        }
        IdleCrimes x = town(1);
        Due.law(x, "w5(1=1)");
        due.is("none", x.tried(40, 0), 0);
    }

    private static void wIs0To99() {
        due.promise("w pence (0 to 99): beyond its bounds the bound; none: 0");
        String[] says = {"0", "1", "98", "99", "100", "99999", "0-1", "0-99999", "99+1-1", "99999*99999", "99999*99999*2"};
        int[] pence = {0, 1, 98, 99, 99, 99, 0, 0, 99, 99, 0};
        for (int i = 0; i < says.length; i++) {
            IdleCrimes x = town(1);
            x.constable(0, 0);
            Due.law(x, "w" + says[i] + "(1=1)");
            due.is("w " + says[i], x.tried(1, 1), pence[i]);
        }
        IdleCrimes x = town(1);
        x.constable(0, 0);
        Due.law(x, "r5(1=1)");
        due.is("none", x.tried(40, 1), 0);
    }

    private static void placesByNumbers() {
        due.promise("(3) Each told PLACE, by numbers");
        IdleCrimes x = new IdleCrimes();
        x.place(15, 0, 100);
        x.place(7, 0, 10);
        x.place(0, 0, 1);
        Due.law(x, "r10(d=0)");
        due.is("the lowest first", x.tried(1, 2), 1);
        Due.law(x, "r10(d=1|p=0)");
        due.is("then the next", x.tried(1, 2), 11);
        Due.law(x, "r10(d=2|p<8)");
        due.is("the highest last", x.tried(1, 2), 111);
        Due.law(x, "r7(1=1)");
        due.is("2 7 6", x.tried(1, 2), 101);
        x.hours(1);
        due.is("three draws", x.count(8), 20196);
    }

    private static void rIsAskedAhead() {
        due.promise("with a DRAW below r (asked ahead)");
        IdleCrimes x = town(1);
        Due.law(x, "r10-10*d(1=1)");
        due.is("d is not yet more", x.hours(1), 1);
        due.is("d is more", x.hours(1), 0);
    }

    private static void wIsAskedThen() {
        due.promise("each one's WAGE is more by w (asked then)");
        IdleCrimes x = town(3);
        x.constable(0, 1);
        x.constable(1, 1);
        Due.law(x, "wd(1=1);r10(1=1)");
        due.is("the crime at a, not the one at c", x.tried(1, 1), 2);
        due.is("each one", x.tried(1, 20), 1);
        due.is("the other one", x.tried(1, 21), 1);
        due.is("in the next hour", x.tried(2, 1), 2 + 6);
    }

    private static void noDrawWhereItIsSafe() {
        due.promise("Each told PLACE, .. if s does not hold");
        IdleCrimes x = town(3);
        x.constable(0, 1);
        Due.law(x, "s(p=1);r10(1=1);w9(1=1)");
        due.is("crimes", x.hours(1), 2);
        due.is("no pence", x.count(5), 0);
        due.is("two draws", x.count(8), (25173 * 39022 + 13849) % 65536);
        Due.law(x, "r10(1=1);s(1=2);w9(1=1);s(p=0|p=2)");
        x.seed(1);
        due.is("any s will do", x.hours(1), 0);
        due.is("pence", x.count(5), 9);
        due.is("one draw", x.count(8), 39022);
    }

    private static void withoutAnSNoneIsSafe() {
        due.promise("without an s in THE LAW none is");
        IdleCrimes x = town(16);
        Due.law(x, "r10(1=1)");
        due.is("sixteen crimes", x.hours(1), 16);
        Due.law(x, "s(1=2);r10(1=1)");
        due.is("nor with one that does not hold", x.hours(1), 16);
    }

    private static void drawsWrapAround() {
        due.promise("DRAWS: X = (25173 X + 13849) modulo 65536 (X is THE SEED at first, 1): X modulo 10");
        IdleCrimes x = town(1);
        int[] all = {1, 39022, 61087, 20196, 45005, 3882};
        for (int h = 0; h < all.length; h++) {
            due.is("hour " + h, x.count(8), all[h]);
            x.hours(1);
        }
        long model = 65535;
        x.seed(65535);
        for (int h = 0; h < 100; h++) {
            Due.law(x, "r10(1=1)");
            model = (25173 * model + 13849) % 65536;
            Due.law(x, "r" + model % 10 + "(1=1)");
            due.is("not below itself", x.tried(1, 0), 0);
            Due.law(x, "r" + (model % 10 + 1) + "(1=1)");
            due.is("below one more", x.hours(1), 1);
            due.is("X", x.count(8), model);
        }
    }

    // ---- what THE LAW says

    private static void theFirstRuleWhoseCHolds() {
        due.promise("of the first RULE of w, r whose C holds the E");
        IdleCrimes x = town(2);
        x.constable(0, 0);
        Due.law(x, "r1(1=2);w1(1=2);w2(1=1);w3(1=1);r10(p=1);r0(1=1)");
        due.is("w", x.tried(1, 1), 2);
        due.is("r", x.tried(20, 0), 20);
        Due.law(x, "w0(1=1);w9(1=1);r0(1=1);r10(1=1)");
        due.is("w 0", x.tried(20, 1), 0);
        due.is("r 0", x.tried(20, 0), 0);
        Due.law(x, "w9(1=2);r9(1=2)");
        due.is("none of w", x.tried(20, 1), 0);
        due.is("none of r", x.tried(20, 0), 0);
        Due.law(x, "w9(1=1)");
        due.is("no r at all", x.tried(20, 0), 0);
        Due.law(x, "r10(1=1)");
        due.is("no w at all", x.tried(20, 1), 0);
    }

    /** The GRAVITY of the PLACES without CONSTABLES at which a TEST holds. */
    private static int holds(IdleCrimes x, String test) {
        due.is("a rule: " + test, Due.law(x, "r10(" + test + ")"), 1);
        return x.tried(1, 2);
    }

    private static void lettersAtTheirBounds() {
        due.promise("p the PLACE, t its TEMPTATION, g its GRAVITY, c how many CONSTABLES are there, n .. NEXT to it, l HOURS since, d CRIMES");
        IdleCrimes x = new IdleCrimes();
        x.place(0, 0, 0);
        x.place(15, 99, 999);
        Due.pleas(x, "a&p");
        due.is("p 15", holds(x, "p=15"), 999);
        due.is("t 99", holds(x, "t=99"), 999);
        due.is("g 999", holds(x, "g=999"), 999);
        due.is("p, t, g, c, n, d 0", holds(x, "p=0&t=0&g=0&c=0&n=0&d=0|p=15"), 999);
        for (int c = 0; c < 8; c++) {
            x.constable(c, 0);
        }
        due.is("c 0, n 8", holds(x, "c=0&n=8"), 999);
        Due.law(x, "w1(c=8&n=0)");
        due.is("c 8, n 0", x.tried(1, 1), 8);
        Due.law(x, "w1(l=0)");
        due.is("l 0", x.tried(2, 1), 16);
        due.is("l 1: this HOUR, too", holds(x, "l=1"), 999);
        x.hours(97);
        due.is("l 98", holds(x, "l=98"), 999);
        x.hours(1);
        due.is("l 99", holds(x, "l=99"), 999);
        x.hours(100);
        due.is("l 99 at most", holds(x, "l=99"), 999);
    }

    private static void hIsTheHourModulo24() {
        due.promise("h THE HOUR modulo 24");
        int[] hours = {0, 1, 23, 24, 25, 47, 48, 239, 240, 9998};
        int[] modulo = {0, 1, 23, 0, 1, 23, 0, 23, 0, 14};
        for (int i = 0; i < hours.length; i++) {
            IdleCrimes x = atHour(town(1), hours[i]);
            Due.law(x, "r10(h=" + modulo[i] + ")");
            due.is("h at " + hours[i], x.tried(1, 0), 1);
            Due.law(x, "r10(h<" + modulo[i] + "|h>" + modulo[i] + ")");
            due.is("no other at " + hours[i], x.tried(1, 0), 0);
        }
    }

    /** Whether a TEST holds at a PLACE of GRAVITY 1. */
    private static void test(String test, boolean holds) {
        IdleCrimes x = town(1);
        due.is(test, holds(x, test), Due.bit(holds));
        due.is("!(" + test + ")", holds(x, "!(" + test + ")"), Due.bit(!holds));
        Due.law(x, "r10(1=1);s(" + test + ")");
        due.is("s(" + test + ")", x.tried(1, 0), Due.bit(!holds));
    }

    private static void numbersWrapAround() {
        due.promise("All is reckoned with 32 bits, as the machine does");
        test("32768*65535+32767>0", true);
        test("32768*65535+32767+1<0", true);
        test("32768*65535+32768<0", true);
        test("32768*65535+32767+1=32768*65536", true);
        test("32768*65536-1=32768*65535+32767", true);
        test("32767*65536+65535>0", true);
        test("32767*65536+65535+1<0", true);
        test("32768*65536<0", true);
        test("32768*65536-1>0", true);
        test("0-32768*65536<0", true);
        test("0-32768*65536=32768*65536", true);
        test("65536*65536=0", true);
        test("99999*99999>0", true);
        test("99999*99999*2<0", true);
        test("46341*46341<0", true);
        test("46340*46340>0", true);
    }

    private static void theLeastIntDivided() {
        due.promise("as the machine does: / and %");
        test("32768*65536/[0-1]=32768*65536", true);
        test("32768*65536%[0-1]=0", true);
        test("[0-7]/2=0-3", true);
        test("[0-7]%2=0-1", true);
        test("7/[0-2]=0-3", true);
        test("7%[0-2]=1", true);
        test("[0-1]/2=0", true);
        test("1/2=0", true);
        test("7/1=7", true);
        test("7%1=0", true);
        test("7/7=1", true);
        test("7%7=0", true);
        test("0/5=0", true);
        test("0%5=0", true);
    }

    private static void fromTheLeftOn() {
        due.promise("from the left on");
        test("9-4-3=2", true);
        test("9-4+3=8", true);
        test("48/4/3=4", true);
        test("48/4*3=36", true);
        test("48%7*3=18", true);
        test("2+3*4=14", true);
        test("[2+3]*4=20", true);
        test("2*3+4=10", true);
        test("20-2*3=14", true);
        test("1<2", true);
        test("2<2", false);
        test("3<2", false);
        test("2>2", false);
        test("2>3", false);
        test("2=3", false);
        test("3=2", false);
        test("3>2", true);
        test("2=2", true);
        test("!!1=1", true);
        test("!1=2&1=1", true);
        test("!1=1|1=1", true);
        test("1=1|1=1&1=2", true);
        test("(1=1|1=1)&1=2", false);
    }

    private static void dividedBy0InC() {
        due.promise("what is divided by 0 is REFUSED: then the whole C of the RULE does not hold");
        IdleCrimes x = town(1);
        String[] refused = {"1/0=0", "1%0=0", "0/0=0", "0%0=0", "1/[1-1]=0", "1/p=0", "1=1&1/0=1", "1=2|1/0=1", "1/0=1|1=1",
            "!1/0=1", "!(1=2&1=1|1/0=1)", "1/0<1", "1<1/0", "[1/0]*0=0", "1/0*0=0", "(1/0=0)|1=1", "1=1&(1/0=0|1=1)", "1/[1/2]=0",
            "32768*65536/0=0"};
        for (String test : refused) {
            Due.law(x, "r10(" + test + ")");
            due.is(test, x.tried(1, 0), 0);
            Due.law(x, "s(" + test + ");r10(1=1)");
            due.is("s(" + test + ")", x.tried(1, 0), 1);
            Due.law(x, "r0(" + test + ");r10(1=1)");
            due.is("the next RULE is asked behind " + test, x.tried(1, 0), 1);
        }
    }

    private static void dividedBy0InE() {
        due.promise("what is divided by 0 is REFUSED: .. the E of it is 0");
        String[] refused = {"1/0", "10+1/0", "10%0", "10-[1/0]", "10+0/0", "1/0+10", "1/0*10"};
        for (String sum : refused) {
            IdleCrimes x = town(2);
            x.constable(0, 1);
            Due.law(x, "r" + sum + "(1=1);r10(1=1);w" + sum + "(1=1);w9(1=1)");
            due.is("r " + sum, x.tried(20, 0), 0);
            due.is("w " + sum, x.tried(20, 1), 0);
        }
        IdleCrimes x = town(3);
        Due.law(x, "r10+1/p(1=1)");
        due.is("at a alone", x.tried(1, 2), 2 + 4);
    }

    private static void asMuchIsAskedAsMatters() {
        due.promise("Of a C as much is asked, from the left, as matters");
        String[] hold = {"1=1|1/0=1", "1=1|1=1&1/0=1", "1=2&1/0=1|1=1", "!(1=2&1/0=1)", "(1=1|1/0=1)&1=1", "1=1&1=1|1/0=1",
            "1=2|1=1|1/0=1", "1=2&1/0=1&1/0=2|1=1|1/0=3", "!!(1=1|1/0=1)"};
        String[] don = {"1=2&1/0=1", "!(1=1|1/0=1)", "1=2&1=1&1/0=1", "(1=2&1/0=1)|1=2", "1=2&(1=1|1/0=1)", "1=2|1=2&1/0=1"};
        for (String test : hold) {
            test(test, true);
        }
        for (String test : don) {
            test(test, false);
        }
    }

    // ---- hours that are tried

    private static void triedHoursAre1To240() {
        due.promise("HOURS (1 to 240 ..) that are tried; NONE: no such ones");
        IdleCrimes x = town(1);
        Due.law(x, "r10(1=1)");
        due.bounds("tried", n -> x.tried(n, 0), 1, 1, 240, 240, -1);
    }

    private static void triedHoursAsManyAsCan() {
        due.promise("HOURS (.. as many as can) that are tried");
        for (int left = 0; left <= 3; left++) {
            IdleCrimes x = line(3);
            x.constable(0, 0);
            atHour(x, 9999 - left);
            Due.law(x, "r10(1=1);w7(1=1)");
            Due.beat(x, 0, ".b");
            due.is("crimes of " + left, x.tried(3, 0), 2 * left);
            due.is("pence of " + left, x.tried(3, 1), 7 * left);
            due.is("alone of " + left, x.alone(2, 3), left);
            due.is("quiet of " + left, x.quiet(3), 0);
            due.is("seen of " + left, x.seen(3), left);
            x.constable(1, 1);
            due.is("together of " + left, x.together(0, 1, 3), left < 2 ? -2 : left == 2 ? 1 : 2);
            due.is("now", x.count(0), 9999 - left);
        }
        IdleCrimes x = atHour(line(2), 9999);
        x.constable(0, 1);
        x.constable(1, 1);
        due.is("quiet of none", x.quiet(240), 0);
        due.is("together now, though none goes by", x.together(0, 1, 1), 0);
        due.is("his place", x.tried(1, 10), 1);
        due.is("since", x.tried(1, 31), 99);
    }

    private static void triedWhat() {
        due.promise("what 0 .. 1 .. 2 .., 10 + c .. of told CONSTABLE c, 20 + c .., 30 + p .. told PLACE p; NONE: no such ones");
        IdleCrimes x = town(16);
        for (int c = 0; c < 8; c++) {
            x.constable(c, 2 * c);
        }
        Due.law(x, "wp(1=1);r10(p=1)");
        due.bounds("what 0 to 2", what -> x.tried(5, what), 0, 5, 2, 10, -1);
        due.is("what 1", x.tried(5, 1), 5 * (2 + 4 + 6 + 8 + 10 + 12 + 14));
        for (int what = -1; what <= 47; what++) {
            int want = -1;
            if (what >= 10 && what < 18) {
                want = 2 * (what - 10);
            } else if (what >= 20 && what < 28) {
                want = 5 * 2 * (what - 20);
            } else if (what >= 30 && what < 46) {
                want = what % 2 == 0 && what < 46 ? 0 : 5;
            }
            if (what < 0 || what > 2) {
                due.is("what " + what, x.tried(5, what), want);
            }
        }
        IdleCrimes z = town(2);
        z.constable(0, 1);
        due.is("since at a, the lowest what", z.tried(5, 30), 5);
        due.is("his wage, the lowest what", z.tried(5, 20), 0);
        due.is("his place, the lowest what", z.tried(5, 10), 1);
        IdleCrimes y = new IdleCrimes();
        for (int what = 10; what < 46; what++) {
            due.is("not told " + what, y.tried(1, what), -1);
        }
    }

    private static void triedChangesNothing() {
        due.promise("TRIED .. (nothing is changed)");
        IdleCrimes x = Scene.make();
        x.tried(240, 0);
        x.alone(0, 240);
        x.together(0, 1, 240);
        x.seen(240);
        x.quiet(240);
        due.is("as it was", Whole.of(x), Whole.of(Scene.make()));
    }

    private static void aloneBounds() {
        due.promise("ALONE of a told PLACE in n HOURS (1 to 240); NONE: no such ones");
        IdleCrimes x = town(16);
        x.constable(0, 3);
        due.bounds("n", n -> x.alone(0, n), 1, 1, 240, 240, -1);
        due.bounds("p", p -> x.alone(p, 7), 0, 7, 15, 7, -1);
        due.is("never", x.alone(3, 240), 0);
        due.is("not told", town(3).alone(3, 7), -1);
        due.is("nobody is told", town(1).alone(0, 240), 240);
    }

    private static void aloneAtTheEndOfHours() {
        due.promise("the longest row of HOURS (of n that are tried) at whose end no CONSTABLE is at a PLACE");
        IdleCrimes x = line(2);
        x.constable(0, 0);
        Due.beat(x, 0, "b.a.b..a");
        // at the ends: b b a a b b b a
        int[] rows = {1, 2, 2, 2, 2, 2, 3, 3};
        int[] rowsOfB = {0, 0, 1, 2, 2, 2, 2, 2};
        for (int n = 1; n <= 8; n++) {
            due.is("a in " + n, x.alone(0, n), rows[n - 1]);
            due.is("b in " + n, x.alone(1, n), rowsOfB[n - 1]);
        }
        x.hours(3);
        due.is("from now on: a b b b", x.alone(0, 4), 3);
        due.is("a row that now goes on does not count what was", x.alone(1, 1), 1);
    }

    private static void togetherBounds() {
        due.promise("TOGETHER of two told CONSTABLES (not the same) in n HOURS (1 to 240 ..); NONE: no such ones");
        IdleCrimes x = town(2);
        for (int c = 0; c < 8; c++) {
            x.constable(c, c == 4 ? 0 : 1);
        }
        due.bounds("n", n -> x.together(0, 4, n), 1, -2, 240, -2, -1);
        due.bounds("n, now", n -> x.together(0, 7, n), 1, 0, 240, 0, -1);
        due.bounds("c", c -> x.together(c, 4, 1), 0, -2, 7, -2, -1);
        due.bounds("d", d -> x.together(4, d, 1), 0, -2, 7, -2, -1);
        for (int c = 0; c < 8; c++) {
            due.is("the same", x.together(c, c, 1), -1);
        }
        IdleCrimes y = town(1);
        y.constable(3, 0);
        due.is("d is not told", y.together(3, 4, 1), -1);
        due.is("c is not told", y.together(4, 3, 1), -1);
        due.is("the same, and not told", y.together(4, 4, 1), -1);
    }

    private static void togetherFirst() {
        due.promise("behind how many of n HOURS two CONSTABLES are at one PLACE first; 0: they are now; -2: not in these");
        IdleCrimes x = line(2);
        x.constable(0, 0);
        x.constable(1, 1);
        Due.beat(x, 0, Due.times(47, ".", "") + "b");
        due.is("in 47", x.together(0, 1, 47), -2);
        due.is("in 48", x.together(0, 1, 48), 48);
        due.is("in 240", x.together(1, 0, 240), 48);
        Due.beat(x, 0, "b");
        Due.beat(x, 1, "a");
        due.is("they pass each other", x.together(0, 1, 240), -2);
        x.constable(1, 0);
        due.is("now", x.together(0, 1, 1), 0);
        x = line(2);
        x.constable(0, 0);
        x.constable(1, 0);
        Due.beat(x, 0, "b");
        due.is("now, though they part", x.together(0, 1, 1), 0);
        IdleCrimes late = line(2);
        late.constable(0, 0);
        late.constable(1, 1);
        late.hours(9);
        Due.beat(late, 0, Due.times(8, ".", "") + "b");
        due.is("just in n", late.together(0, 1, 9), 9);
        due.is("just not", late.together(0, 1, 8), -2);
    }

    private static void seenBounds() {
        due.promise("SEEN in n HOURS (1 to 240); NONE: no such n");
        IdleCrimes x = line(16);
        x.constable(0, 0);
        Due.beat(x, 0, "bcdefghijklmnop");
        due.bounds("seen", n -> x.seen(n), 1, 2, 240, 0xFFFE, -1);
        due.is("15 hours", x.seen(15), 0xFFFE);
        due.is("14 hours", x.seen(14), 0x7FFE);
        x.constable(7, 0);
        due.is("all", x.seen(240), 0xFFFF);
        due.is("nobody", town(3).seen(240), 0);
        due.is("no places", new IdleCrimes().seen(1), 0);
    }

    private static void quietBounds() {
        due.promise("QUIET in n HOURS (1 to 240); NONE: no such n");
        IdleCrimes x = town(1);
        due.bounds("quiet", n -> x.quiet(n), 1, 1, 240, 240, -1);
        Due.law(x, "r10(1=1)");
        due.bounds("never", n -> x.quiet(n), 1, 0, 240, 0, -1);
        Due.law(x, "r7(1=1)");
        // 2 7 6 5 2 9 6 7 2 9 6: below 7 are all but 7 9 7 9
        int[] rows = {0, 1, 1, 1, 1, 1, 1, 1, 1, 1, 1};
        for (int n = 1; n <= rows.length; n++) {
            due.is("in " + n, x.quiet(n), rows[n - 1]);
        }
        Due.law(x, "r10(h=5|h=9|h=12)");
        int[] longest = {1, 2, 3, 4, 5, 5, 5, 5, 5, 5, 5, 5, 5, 5, 5, 5, 5, 5, 6};
        for (int n = 1; n <= longest.length; n++) {
            due.is("rows of 5, 3, 2, and on, in " + n, x.quiet(n), longest[n - 1]);
        }
        due.is("no places", new IdleCrimes().quiet(240), 240);
    }

    // ---- kept and undone

    private static void keepTellsTheHour() {
        due.promise("KEPT: THE HOUR");
        due.is("at first", new IdleCrimes().keep(), 0);
        due.is("then", atHour(town(1), 777).keep(), 777);
        due.is("at last", atHour(town(1), 9999).keep(), 9999);
    }

    private static void undoneAsKept() {
        due.promise("UNDONE: as they were KEPT last (told PLACES, NEXT stay as they are now)");
        IdleCrimes x = Scene.make();
        x.keep();
        x.place(0, 1, 1);
        x.place(15, 98, 998);
        x.constable(0, 2);
        x.constable(6, 15);
        Due.pleas(x, "a&p;b=7;c-9");
        Due.beat(x, 1, "9.");
        x.seed(77);
        x.hours(33);
        due.is("undo()", x.undo(), true);
        IdleCrimes y = Scene.make();
        y.place(15, 0, 0);
        Due.pleas(y, "a&p");
        Due.beat(y, 1, "9.");
        due.is("as it was, but what stays", Whole.of(x), Whole.of(y));
        due.is("told places stay", x.count(3) >> 15, 1);
        due.is("next stays", x.placeIs(0, 4) >> 15, 1);
        due.is("it was not there", x.placeIs(15, 0), 0);
        due.is("nor its hours", x.placeIs(15, 2), 0);
        due.is("who is told since is not", x.constableIs(6, 0), -1);
    }

    private static void undoneWhenNoneWasKept() {
        due.promise("UNDONE: true; false: none was KEPT");
        IdleCrimes x = town(3);
        x.hours(5);
        due.is("none was", x.undo(), false);
        due.is("nothing is changed", x.count(0), 5);
        x.keep();
        x.hours(7);
        due.is("one was", x.undo(), true);
        due.is("then", x.count(0), 5);
        x.hours(7);
        due.is("it stays kept", x.undo(), true);
        due.is("then again", x.count(0), 5);
        x.hours(2);
        due.is("another one", x.keep(), 7);
        x.hours(2);
        due.is("undo()", x.undo(), true);
        due.is("the last one", x.count(0), 7);
        IdleCrimes empty = new IdleCrimes();
        empty.keep();
        empty.place(3, 9, 9);
        empty.constable(2, 3);
        empty.hours(9);
        due.is("an empty one was", empty.undo(), true);
        due.is("nobody", empty.count(4), 0);
        due.is("the hour", empty.count(0), 0);
        due.is("X", empty.count(8), 1);
        due.is("the place is told", empty.placeIs(3, 0), 0);
    }
}
