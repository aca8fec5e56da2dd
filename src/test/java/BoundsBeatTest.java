/** The bounds of A BEAT: its part of "Terms", and promise 6. Each method is a sentence of the document. */
public final class BoundsBeatTest {
    private static final Due due = new Due();
    private static final String PLACES = "abcdefghijklmnop";

    public static void main(String[] args) {
        lettersAreAToP();
        afterADigit();
        afterAStep();
        afterABracket();
        inABracket();
        afterABracketEnds();
        digitsAre2To9();
        bracketsAre2To9Times();
        stepsAre48AtMost();
        bytesAre60AtMost();
        constablesToldOrNot();
        overAndOverByTheHour();
        soManyOfIt();
        theEndCantStandThere();
        aThirdBracket();
        moreThan48AtWhatMakesThemSo();
        moreThan48OfAnInnerOneFirst();
        moreThan48AskedWhenItEnds();
        firstFromTheLeft();
        theOneBeforeStays();
        due.tell();
    }

    private static int faultOf(String text) {
        return Due.beat(new IdleCrimes(), 0, text);
    }

    /** Each byte behind what stands ahead: what may go on, what ends well with so many STEPS, and what can't stand there. */
    private static void eachByte(String ahead, String goesOn, String ends, int steps) {
        for (int b = 0; b < 256; b++) {
            int want = -1000 - ahead.length();
            if (b > 0 && goesOn.indexOf(b) >= 0) {
                want--;
            } else if (b > 0 && ends.indexOf(b) >= 0) {
                want = steps;
            }
            due.is(ahead + " and the byte " + b, faultOf(ahead + (char) b), want);
        }
    }

    private static void lettersAreAToP() {
        due.promise("a letter a to p (go there) or a dot (46, stay), a digit 2 to 9, or (; no blanks; 1 what can't stand there");
        eachByte("", "(23456789", PLACES + ".", 1);
    }

    private static void afterADigit() {
        due.promise("ahead of each perhaps a digit 2 to 9");
        eachByte("9", "(", PLACES + ".", 9);
        eachByte("2", "(", PLACES + ".", 2);
    }

    private static void afterAStep() {
        due.promise("STEPS one behind the other");
        eachByte("a", "(23456789", PLACES + ".", 2);
        eachByte("3.", "(23456789", PLACES + ".", 4);
    }

    private static void afterABracket() {
        due.promise("(STEPS): one at least");
        eachByte("(", PLACES + ".(23456789", "", 0);
        eachByte("((", PLACES + ".23456789", "(", -5002);
    }

    private static void inABracket() {
        due.promise("(STEPS)");
        eachByte("(a", PLACES + ".(23456789", ")", 1);
        eachByte("(2", PLACES + ".(", "", 0);
    }

    private static void afterABracketEnds() {
        due.promise("(STEPS), and what comes behind");
        eachByte("(a)", "(23456789", PLACES + ".", 2);
        eachByte("3(ab)", "(23456789", PLACES + ".", 7);
    }

    private static void digitsAre2To9() {
        due.promise("a digit 2 to 9 (so many of it)");
        for (int d = 2; d <= 9; d++) {
            due.is(d + "a", faultOf(d + "a"), d);
            due.is(d + ".", faultOf(d + "."), d);
        }
        due.is("0a", faultOf("0a"), -1000);
        due.is("1a", faultOf("1a"), -1000);
        due.is("10a", faultOf("10a"), -1000);
        due.is("22a", faultOf("22a"), -1001);
    }

    private static void bracketsAre2To9Times() {
        due.promise("(STEPS), ahead of it perhaps a digit 2 to 9 (so many times)");
        due.is("(ab)", faultOf("(ab)"), 2);
        for (int d = 2; d <= 9; d++) {
            due.is(d + "(ab.)", faultOf(d + "(ab.)"), 3 * d);
        }
        due.is("1(a)", faultOf("1(a)"), -1000);
        due.is("0(a)", faultOf("0(a)"), -1000);
        due.is("33(a)", faultOf("33(a)"), -1001);
    }

    private static void stepsAre48AtMost() {
        due.promise("48 STEPS at most in all");
        due.is("48 letters", faultOf(Due.times(48, "a", "")), 48);
        due.is("49 letters", faultOf(Due.times(49, "a", "")), -6048);
        due.is("60 letters", faultOf(Due.times(60, "a", "")), -6048);
        due.is("8 times 6", faultOf("8(6a)"), 48);
        due.is("6 times 8", faultOf("6(8.)"), 48);
        due.is("7 times 7", faultOf("7(7a)"), -6000);
        due.is("9 times 9 times 9", faultOf("9(9(9a))"), -6002);
        due.is("4 times 3 times 4", faultOf("4(3(4a))"), 48);
        due.is("8 times 3 times 2", faultOf("8(3(2a))"), 48);
        due.is("45 and 3", faultOf("5(9a)3a"), 48);
        due.is("45 and 4", faultOf("5(9a)4a"), -6005);
        due.is("39 and 9", faultOf("3(9a)3(4a)9a"), 48);
        due.is("40 and 9", faultOf("5(8a)9a"), -6005);
    }

    private static void bytesAre60AtMost() {
        due.promise("a TEXT of at most 60 bytes; the first n bytes of the tape (1 to 60; empty then); NONE: no such ones, it has not so many");
        String full = Due.times(6, "(a)", "") + Due.times(42, "b", "");
        due.is("sixty bytes are forty-eight steps", Due.beat(new IdleCrimes(), 0, full), 48);
        due.bounds("beat", n -> {
            IdleCrimes x = Due.fed(full + Due.times(10, "a", ""));
            return x.beat(0, n);
        }, 1, -1001, 60, 48, -1);
        IdleCrimes x = Due.fed("aaaaaaaaaaaaaaaaaaaa");
        due.is("one more than it has", x.beat(0, 21), -1);
        due.is("the tape stays", x.count(7), 20);
        due.is("as many as it has", x.beat(0, 20), 20);
        due.is("empty then", x.count(7), 0);
        due.is("none left", x.beat(0, 1), -1);
        x = Due.fed("aq");
        due.is("what stands behind is not read", x.beat(0, 1), 1);
        due.is("but gone", x.count(7), 0);
    }

    private static void constablesToldOrNot() {
        due.promise("The BEAT of CONSTABLE c (0 to 7, told or not)");
        due.bounds("beat", c -> Due.beat(new IdleCrimes(), c, "ab"), 0, 2, 7, 2, -1);
        IdleCrimes x = new IdleCrimes();
        due.is("not told", Due.beat(x, 7, "ab."), 3);
        due.is("not asked", x.constableIs(7, 2), -1);
        x.place(0, 1, 1);
        x.constable(7, 0);
        due.is("told then", x.constableIs(7, 2), 3);
        Due.text(x, "a");
        due.is("constable 8", x.beat(8, 1), -1);
        due.is("the tape stays", x.count(7), 20);
    }

    private static IdleCrimes line() {
        IdleCrimes x = new IdleCrimes();
        for (int p = 0; p < 4; p++) {
            x.place(p, 0, 0);
        }
        Due.pleas(x, "a&b;b&c;c&d;d&a");
        x.constable(0, 0);
        return x;
    }

    private static void overAndOverByTheHour() {
        due.promise("over and over, by THE HOUR (the first one at THE HOUR 0)");
        IdleCrimes x = line();
        Due.beat(x, 0, "bcd.a");
        int[] places = {1, 2, 3, 3, 0, 1, 2, 3, 3, 0, 1};
        for (int h = 0; h < places.length; h++) {
            due.is("tried " + h, x.tried(h + 1, 10), places[h]);
        }
        x = line();
        Due.beat(x, 0, Due.times(47, ".", "") + "b");
        due.is("the 48th is not yet", x.tried(47, 10), 0);
        due.is("the 48th", x.tried(48, 10), 1);
        x = line();
        x.hours(47);
        Due.beat(x, 0, Due.times(47, ".", "") + "b");
        due.is("the 48th at THE HOUR 47", x.tried(1, 10), 1);
        x = line();
        x.hours(48);
        Due.beat(x, 0, "b" + Due.times(47, ".", ""));
        due.is("the first again at THE HOUR 48", x.tried(1, 10), 1);
        x = line();
        Due.beat(x, 0, "b");
        due.is("one step, over and over", x.tried(240, 10), 1);
        x = line();
        x.hours(3);
        Due.beat(x, 0, "..b");
        due.is("THE HOUR goes on where the beat is new", x.tried(2, 10), 0);
        due.is("its third step at THE HOUR 5", x.tried(3, 10), 1);
    }

    /** Where he is behind each of so many HOURS. */
    private static void walk(String beat, String places) {
        IdleCrimes x = line();
        due.is(beat, Due.beat(x, 0, beat), places.length());
        for (int h = 0; h < places.length(); h++) {
            x.hours(1);
            due.is(beat + " behind " + (h + 1), x.constableIs(0, 0), places.charAt(h) - 'a');
        }
    }

    private static void soManyOfIt() {
        due.promise("so many of it, so many times: the same STEPS once more");
        walk("bcd", "bcd");
        walk("3bc", "bbbc");
        walk("b2.a", "bbba");
        walk("2(bcda)b", "bcdabcdab");
        walk("3(bc)d", "bcbcbcd");
        walk("b2(2(ab).)c", "bababbababbc");
        walk("(b)(c)d", "bcd");
        walk("2((bc)2(da))", "bcdadabcdada");
        walk("9(2(ba)b)a", Due.times(9, "babab", "") + "a");
        walk("6(bcdabcda)", Due.times(6, "bcdabcda", ""));
    }

    private static void theEndCantStandThere() {
        due.promise("1 what can't stand there (the end, too)");
        String[] texts = {"2", "a2", "(", "(a", "((a", "((a)", "(a2", "2(", "(2(a)"};
        for (String text : texts) {
            due.is(text, faultOf(text), -1000 - text.length());
        }
        due.is("(a))", faultOf("(a))"), -1003);
        due.is(")", faultOf(")"), -1000);
        due.is("2)", faultOf("2)"), -1001);
        due.is("(a2)", faultOf("(a2)"), -1003);
        due.is("60 bytes, 36 steps", faultOf(Due.times(12, "(a)2.", "")), 36);
        due.is("the end at 60", faultOf(Due.times(19, "(a)", "") + "(a("), -1060);
    }

    private static void aThirdBracket() {
        due.promise("5 a third ( that is open in another one, at it");
        due.is("two", faultOf("((a))"), 1);
        due.is("two behind one another", faultOf("((a)(b))((c)(d))"), 4);
        due.is("three", faultOf("(((a)))"), -5002);
        due.is("three with digits: at it, not at its digit", faultOf("2(2(2(a)))"), -5005);
        due.is("a third behind steps", faultOf("(a(b(c)))"), -5004);
        due.is("a third behind one that ended", faultOf("((a)(b(c)))"), -5006);
        due.is("a third that ends at once", faultOf("((("), -5002);
        due.is("third in all, but not in others", faultOf("(a)(b)(c)"), 3);
    }

    private static void moreThan48AtWhatMakesThemSo() {
        due.promise("6 more than 48, at the first byte of what (or its digit) by which they are");
        String ahead = Due.times(40, "a", "");
        due.is("a letter", faultOf(ahead + "8abc"), -6042);
        due.is("a dot", faultOf(ahead + "8a."), -6042);
        due.is("a letter with a digit", faultOf(ahead + "9a"), -6040);
        due.is("a bracket", faultOf(ahead + "7a(ab)"), -6044);
        due.is("a bracket with a digit", faultOf(ahead + "3(3a)"), -6040);
        due.is("a bracket's inside", faultOf(ahead + "(9a)"), -6041);
        due.is("a bracket's inside's inside", faultOf(ahead + "((9a))"), -6042);
        due.is("one in a bracket that had room", faultOf(ahead + "2(4a)b"), -6045);
    }

    private static void moreThan48OfAnInnerOneFirst() {
        due.promise("6: of an inner one first");
        due.is("both are", faultOf("9(7(7a))"), -6002);
        due.is("what can't stand there ahead of both", faultOf("7(7(1a))"), -1004);
        due.is("the outer one", faultOf("9(3(2a))"), -6000);
        due.is("the inner one by what stands ahead", faultOf("5(8a)2(2(3a))"), -6005);
        due.is("inner ones", faultOf("5(8a)2(3(3a))"), -6007);
    }

    private static void moreThan48AskedWhenItEnds() {
        due.promise("6: asked when it ends");
        due.is("it does not end", faultOf("9(9a"), -1004);
        due.is("it ends not so", faultOf("9(9aq)"), -1004);
        due.is("a digit without a step", faultOf("5(9a)9"), -1006);
        due.is("a digit and what can't stand there", faultOf("5(9a)9q"), -1006);
        due.is("a third bracket ahead of its end", faultOf("9(9a(2(a)))"), -5006);
        due.is("it ends", faultOf("9(9a)q"), -6000);
        due.is("a letter ends at once", faultOf(Due.times(49, "a", "") + "q"), -6048);
    }

    private static void firstFromTheLeft() {
        due.promise("FAULTS, the first from the left");
        due.is("1 ahead of 5", faultOf("((q((("), -1002);
        due.is("5 ahead of 1", faultOf("(((q"), -5002);
        due.is("1 ahead of 6", faultOf("q9(9a)"), -1000);
        due.is("6 ahead of 5", faultOf("9(9a)((("), -6000);
        due.is("6 ahead of another 6", faultOf("9(9a)9(9a)"), -6000);
    }

    private static void theOneBeforeStays() {
        due.promise("in place of the one before; a FAULT");
        IdleCrimes x = line();
        due.is("bb", Due.beat(x, 0, "bb"), 2);
        due.is("c", Due.beat(x, 0, "bcd(("), -1005);
        due.is("the one before", x.constableIs(0, 2), 2);
        due.is("empty then", x.count(7), 0);
        due.is("he goes as before", x.tried(2, 10), 1);
        due.is("many steps and a fault", Due.beat(x, 0, Due.times(49, "d", "")), -6048);
        due.is("he still goes as before", x.tried(1, 10), 1);
        due.is("another one's is his own", Due.beat(x, 1, "ddd"), 3);
        due.is("he goes so still", x.tried(1, 10), 1);
        due.is("a new one", Due.beat(x, 0, "d"), 1);
        due.is("he goes so", x.tried(1, 10), 3);
    }
}
