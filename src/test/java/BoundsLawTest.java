/** The bounds of THE LAW as a text: its part of "Terms", and promise 5. Each method is a sentence of the document. */
public final class BoundsLawTest {
    private static final Due due = new Due();
    private static final String LETTERS = "ptgcnlhd";
    private static final String DIGITS = "0123456789";
    private static final String SIGNS = "+-*/%";

    public static void main(String[] args) {
        rulesBeginWithALetter();
        anEStandsAheadOfC();
        safeHasCOnly();
        behindANumber();
        behindALetter();
        insideC();
        behindATest();
        behindC();
        insideSquareBrackets();
        behindSquareBrackets();
        behindNot();
        insideRoundBrackets();
        numbersOfOneToFiveDigits();
        rulesAre16AtMost();
        bytesAre240AtMost();
        theEndCantStandThere();
        aSixthDigit();
        aSeventeenthRule();
        aSeventhThatIsOpen();
        theBracketOfTheRuleCounts();
        notIsOpenTillItsTestEnds();
        theEOfARuleStandsAhead();
        firstFromTheLeft();
        theOneBeforeStays();
        due.tell();
    }

    private static int faultOf(String text) {
        return Due.law(new IdleCrimes(), text);
    }

    /** Each byte behind what stands ahead: what may go on, and what ends so many RULES. */
    private static void eachByte(String ahead, String goesOn, String ends, int rules) {
        for (int b = 0; b < 256; b++) {
            int want = -1000 - ahead.length();
            if (b > 0 && goesOn.indexOf(b) >= 0) {
                want--;
            } else if (b > 0 && ends.indexOf(b) >= 0) {
                want = rules;
            }
            due.is(ahead + " and the byte " + b, faultOf(ahead + (char) b), want);
        }
    }

    private static void rulesBeginWithALetter() {
        due.promise("RULES with a ; (59) between two: a letter; no blanks; 1 what can't stand there");
        eachByte("", "wrs", "", 0);
        eachByte("s(p=0);", "wrs", "", 0);
    }

    private static void anEStandsAheadOfC() {
        due.promise("a letter, E, and (C)");
        eachByte("w", LETTERS + DIGITS + "[", "", 0);
        eachByte("r", LETTERS + DIGITS + "[", "", 0);
        eachByte("w1+", LETTERS + DIGITS + "[", "", 0);
        eachByte("w1%", LETTERS + DIGITS + "[", "", 0);
    }

    private static void safeHasCOnly() {
        due.promise("of s only (C)");
        eachByte("s", "(", "", 0);
    }

    private static void behindANumber() {
        due.promise("TERMS with + or - between two; FACTORS with one of * / % between two; a number");
        eachByte("w5", DIGITS + SIGNS + "(", "", 0);
        eachByte("w5+5*5", DIGITS + SIGNS + "(", "", 0);
    }

    private static void behindALetter() {
        due.promise("a FACTOR: a letter: p, t, g, c, n, l, h, d");
        for (int i = 0; i < LETTERS.length(); i++) {
            eachByte("r" + LETTERS.charAt(i), SIGNS + "(", "", 0);
        }
    }

    private static void insideC() {
        due.promise("a TEST: !TEST, (C), or E, one of < > =, and E");
        eachByte("s(", LETTERS + DIGITS + "![(", "", 0);
        eachByte("s(p", SIGNS + "<>=", "", 0);
        eachByte("s(1", DIGITS + SIGNS + "<>=", "", 0);
        for (String sign : new String[] {"<", ">", "="}) {
            eachByte("s(p" + sign, LETTERS + DIGITS + "[", "", 0);
        }
        eachByte("s(p-", LETTERS + DIGITS + "[", "", 0);
    }

    private static void behindATest() {
        due.promise("PARTS with a | between two; TESTS with an & between two");
        eachByte("s(p=c", SIGNS + "&|", ")", 1);
        eachByte("s(p=1", DIGITS + SIGNS + "&|", ")", 1);
        eachByte("s(p=1&", LETTERS + DIGITS + "![(", "", 0);
        eachByte("s(p=1|", LETTERS + DIGITS + "![(", "", 0);
        eachByte("s(p=1|t<c", SIGNS + "&|", ")", 1);
    }

    private static void behindC() {
        due.promise("(C), with a ; between two");
        eachByte("s(p=1)", ";", "", 0);
        eachByte("w5(p=1)", ";", "", 0);
    }

    private static void insideSquareBrackets() {
        due.promise("a FACTOR: [E]");
        eachByte("w[", LETTERS + DIGITS + "[", "", 0);
        eachByte("w[p", SIGNS + "]", "", 0);
        eachByte("w[5", DIGITS + SIGNS + "]", "", 0);
        eachByte("s([p", SIGNS + "]", "", 0);
        eachByte("s(1=[p", SIGNS + "]", "", 0);
    }

    private static void behindSquareBrackets() {
        due.promise("[E], and what comes behind");
        eachByte("w[p]", SIGNS + "(", "", 0);
        eachByte("s([p]", SIGNS + "<>=", "", 0);
        eachByte("s(1=[p]", SIGNS + "&|", ")", 1);
    }

    private static void behindNot() {
        due.promise("!TEST");
        eachByte("s(!", LETTERS + DIGITS + "![(", "", 0);
        eachByte("s(!p=c", SIGNS + "&|", ")", 1);
    }

    private static void insideRoundBrackets() {
        due.promise("(C) as a TEST");
        eachByte("s((", LETTERS + DIGITS + "![(", "", 0);
        eachByte("s((p=c", SIGNS + "&|)", "", 0);
        eachByte("s((p=c)", "&|", ")", 1);
        eachByte("s(!(p=c)", "&|", ")", 1);
    }

    private static void numbersOfOneToFiveDigits() {
        due.promise("a number of one to five digits");
        String digits = "";
        for (int n = 1; n <= 5; n++) {
            digits += "9";
            due.is(n + " in E", faultOf("w" + digits + "(p=0)"), 1);
            due.is(n + " in C", faultOf("s(p=" + digits + ")"), 1);
            due.is(n + " ahead in C", faultOf("s(" + digits + "=p)"), 1);
        }
        due.is("zeros", faultOf("w00000(00000=00000)"), 1);
    }

    private static void rulesAre16AtMost() {
        due.promise("RULES (16 at most); how many RULES");
        for (int n = 1; n <= 16; n++) {
            IdleCrimes x = new IdleCrimes();
            due.is(n + " rules", Due.law(x, Due.times(n, "w1(p=0)", ";")), n);
            due.is("count(6)", x.count(6), n);
        }
        due.is("17 rules", faultOf(Due.times(17, "w1(p=0)", ";")), -4128);
        IdleCrimes x = new IdleCrimes();
        x.place(0, 1, 1);
        x.constable(0, 0);
        Due.law(x, Due.times(15, "w1(p=1)", ";") + ";w7(p=0)");
        due.is("the 16th is asked", x.tried(1, 1), 7);
    }

    private static void bytesAre240AtMost() {
        due.promise("a TEXT of at most 240 bytes; the first n bytes of the tape (1 to 240; empty then); NONE: no such n, it has not so many");
        String full = "s(" + Due.times(58, "p=0", "|") + "|p=015)";
        due.is("240 bytes", full.length(), 240);
        due.is("can be a law", faultOf(full), 1);
        due.bounds("law", n -> {
            IdleCrimes x = Due.fed(full + "(((((");
            return x.law(n);
        }, 1, -1001, 240, 1, -1);
        IdleCrimes x = Due.fed(full);
        x.place(15, 1, 1);
        x.law(240);
        x.hours(1);
        due.is("its last test is asked", x.count(8), 1);
        x.place(14, 1, 1);
        x.hours(1);
        due.is("no other holds", x.count(8), 39022);
        x = Due.fed("s(p=0)ssssssssssssss");
        due.is("one more than it has", x.law(21), -1);
        due.is("the tape stays", x.count(7), 20);
        due.is("as many as it has", x.law(20), -1006);
        due.is("empty then", x.count(7), 0);
        due.is("none left", x.law(1), -1);
        x = Due.fed("s(p=0)s");
        due.is("what stands behind is not read", x.law(6), 1);
        due.is("but gone", x.count(7), 0);
        due.is("240 bytes of no end", faultOf("s(" + Due.times(59, "p=0", "|") + "&p"), -1000 - 239);
        due.is("the end at 240", faultOf("s(" + Due.times(59, "p=0", "|") + "&p="), -1240);
    }

    private static void theEndCantStandThere() {
        due.promise("1 what can't stand there (the end, too)");
        String[] texts = {"w", "r", "s", "w5", "wp", "w5+", "w[", "w[5", "w[5]", "w5(", "s(", "s(!", "s((", "s(p", "s(p+", "s(p=", "s(p=0",
            "s(p=0&", "s(p=0|", "s((p=0", "s((p=0)", "s(p=0);", "s(p=0);w", "s(p=0);w5(p=0"};
        for (String text : texts) {
            due.is(text, faultOf(text), -1000 - text.length());
        }
    }

    private static void aSixthDigit() {
        due.promise("2 a sixth digit, at it");
        due.is("in E", faultOf("w000000(p=0)"), -2006);
        due.is("in E, later", faultOf("w1+123456(p=0)"), -2008);
        due.is("in [E]", faultOf("w[123456](p=0)"), -2007);
        due.is("in C", faultOf("s(123456=p)"), -2007);
        due.is("behind =", faultOf("s(p=123456)"), -2009);
        due.is("a seventh, too", faultOf("r1234567"), -2006);
        due.is("two numbers of five", faultOf("w99999+99999(p=0)"), 1);
    }

    private static void aSeventeenthRule() {
        due.promise("4 a 17th RULE, at its letter (if that can stand there)");
        String sixteen = Due.times(16, "s(p=0)", ";") + ";";
        for (int b = 0; b < 256; b++) {
            boolean can = b == 'w' || b == 'r' || b == 's';
            due.is("the byte " + b, faultOf(sixteen + (char) b), can ? -4112 : -1112);
        }
        due.is("the end", faultOf(sixteen), -1112);
        due.is("a whole one", faultOf(sixteen + "w5(p=0)"), -4112);
    }

    private static void aSeventhThatIsOpen() {
        due.promise("5 a seventh of ( [ ! that are open in one another, at it");
        due.is("six (", faultOf("s((((((p=0))))))"), 1);
        due.is("a seventh (", faultOf("s(((((((p=0)))))))"), -5007);
        due.is("six with a [", faultOf("s((((([p]=0)))))"), 1);
        due.is("a seventh [", faultOf("s(((((([p]=0))))))"), -5007);
        due.is("a seventh [ behind =", faultOf("s((((((p=[0]))))))"), -5009);
        due.is("six with a !", faultOf("s(((((!p=0)))))"), 1);
        due.is("a seventh !", faultOf("s((((((!p=0))))))"), -5007);
        due.is("each kind", faultOf("s(!(!([p]=0)))"), 1);
        due.is("each kind, seven", faultOf("s(!(!([[p]]=0)))"), -5007);
        due.is("closed ones do not count", faultOf("s((((((p=0)|(p=0))))))"), 1);
        due.is("a seventh behind closed ones", faultOf("s((((((p=0)|((p=0)))))))"), -5013);
        due.is("closed [ do not count", faultOf("s([[[[[p]]]]]+[[[[[p]]]]]=[[[[[p]]]]])"), 1);
        due.is("a seventh that ends at once", faultOf("s((((((("), -5007);
    }

    private static void theBracketOfTheRuleCounts() {
        due.promise("5: the ( of the RULE counts");
        due.is("five [ in it", faultOf("s([[[[[p]]]]]=0)"), 1);
        due.is("six [ in it", faultOf("s([[[[[[p]]]]]]=0)"), -5007);
        due.is("of w, too", faultOf("w1([[[[[p]]]]]=0)"), 1);
        due.is("six [ in w's", faultOf("w1([[[[[[p]]]]]]=0)"), -5008);
        due.is("of the second rule", faultOf("s(p=0);s([[[[[[p]]]]]]=0)"), -5014);
    }

    private static void notIsOpenTillItsTestEnds() {
        due.promise("5: a ! is open till its TEST ends");
        due.is("five !", faultOf("s(!!!!!p=0)"), 1);
        due.is("six !", faultOf("s(!!!!!!p=0)"), -5007);
        due.is("it is open in its E", faultOf("s(!!!!![p]=0)"), -5007);
        due.is("and behind =", faultOf("s(!!!!!p=[0])"), -5009);
        due.is("a [ in four of them", faultOf("s(!!!![p]=[0])"), 1);
        due.is("it has ended behind &", faultOf("s(!!!!!p=0&!!!!!p=0)"), 1);
        due.is("and behind |", faultOf("s(!!!!!p=0|[[[[[p]]]]]=0)"), 1);
        due.is("it is open in its (C)", faultOf("s(!!!!(p=0&!p=0))"), -5011);
        due.is("it has ended behind its (C)", faultOf("s(!!!!(p=0)&!!!!!p=0)"), 1);
    }

    private static void theEOfARuleStandsAhead() {
        due.promise("5: the E of a RULE stands ahead of it");
        due.is("six [ ahead", faultOf("w[[[[[[p]]]]]](p=0)"), 1);
        due.is("a seventh [ ahead", faultOf("w[[[[[[[p]]]]]]](p=0)"), -5007);
        due.is("six ahead and six of C", faultOf("w[[[[[[p]]]]]]((((((p=0))))))"), 1);
        due.is("six, twice", faultOf("r[[[[[[p]]]]]]+[[[[[[p]]]]]](p=0)"), 1);
        due.is("a seventh in the second", faultOf("r[[[[[[p]]]]]]+[[[[[[[p]]]]]]](p=0)"), -5021);
    }

    private static void firstFromTheLeft() {
        due.promise("FAULTS, the first from the left");
        due.is("1 ahead of 2", faultOf("wx123456"), -1001);
        due.is("2 ahead of 1", faultOf("w123456x"), -2006);
        due.is("2 ahead of 5", faultOf("w123456((((((("), -2006);
        due.is("5 ahead of 2", faultOf("s(((((((123456"), -5007);
        due.is("1 ahead of 5", faultOf("s(((((()("), -1007);
        due.is("1 ahead of a 17th rule", faultOf(Due.times(15, "s(p=0)", ";") + ";s(p=x);s(p=0)"), -1109);
        due.is("a 17th rule ahead of 1", faultOf(Due.times(16, "s(p=0)", ";") + ";s(p=x)"), -4112);
    }

    private static IdleCrimes guarded(String law) {
        IdleCrimes x = new IdleCrimes();
        x.place(0, 1, 1);
        x.place(1, 1, 1);
        x.constable(0, 0);
        Due.law(x, law);
        return x;
    }

    private static void theOneBeforeStays() {
        due.promise("in place of the one before; a FAULT (the one before stays)");
        String first = "w5(p=0);r7(p=1)";
        String before = Whole.of(guarded(first));
        String[] faults = {"x", "w9(1=1);r9(1=1);", "w9(1=1)x", "w123456(1=1)", Due.times(17, "s(1=1)", ";"), "s(((((((", "w9(1=1);s(1=1"};
        for (String fault : faults) {
            IdleCrimes x = guarded(first);
            due.is(fault, Due.law(x, fault) <= -1000, true);
            due.is("rules", x.count(6), 2);
            due.is("as it was", Whole.of(x), before);
        }
        IdleCrimes x = guarded(first);
        due.is("a new one", Due.law(x, "w6(1=1)"), 1);
        due.is("rules then", x.count(6), 1);
        due.is("pence by it", x.tried(2, 1), 12);
        due.is("none of the one before", x.tried(240, 0), 0);
        due.is("a fault behind it", Due.law(x, "s(1=1"), -1005);
        due.is("pence by it still", x.tried(2, 1), 12);
    }
}
