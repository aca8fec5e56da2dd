/** The bounds of PLEAS: its part of "Terms", and promise 7. Each method is a sentence of the document. */
public final class BoundsPleasTest {
    private static final Due due = new Due();
    private static final String PLACES = "abcdefghijklmnop";
    private static final String DIGITS = "0123456789";

    public static void main(String[] args) {
        linesBeginWithALetter();
        thenASign();
        aNumberOfOneOrTwoDigits();
        aNumberOfOneToThreeDigits();
        aSecondLetter();
        behindALine();
        temptationIs0To99();
        temptationStopsByEachLine();
        gravityIsSet();
        nextAreBoth();
        linesAre20AtMost();
        bytesAre120AtMost();
        theEndCantStandThere();
        aDigitTooMany();
        aTwentyFirstLine();
        aPlaceAndItself();
        aPlaceThatIsNotTold();
        notToldIsBehind4And6();
        nothingIsDoneWithAFault();
        firstFromTheLeft();
        due.tell();
    }

    private static IdleCrimes town() {
        IdleCrimes x = new IdleCrimes();
        for (int p = 0; p < 16; p++) {
            x.place(p, 50, 500);
        }
        return x;
    }

    private static int faultOf(String text) {
        return Due.pleas(town(), text);
    }

    /** Each byte behind what stands ahead: what may go on, what ends so many LINES well, and what has a FAULT of its own. */
    private static void eachByte(String ahead, String goesOn, String ends, int lines, String others, int other) {
        for (int b = 0; b < 256; b++) {
            int want = -1000 - ahead.length();
            if (b > 0 && goesOn.indexOf(b) >= 0) {
                want--;
            } else if (b > 0 && ends.indexOf(b) >= 0) {
                want = lines;
            } else if (b > 0 && others.indexOf(b) >= 0) {
                want = -1000 * other - ahead.length();
            }
            due.is(ahead + " and the byte " + b, faultOf(ahead + (char) b), want);
        }
    }

    private static void linesBeginWithALetter() {
        due.promise("a letter a to p; no blanks; 1 what can't stand there");
        eachByte("", PLACES, "", 0, "", 0);
        eachByte("a+1;", PLACES, "", 0, "", 0);
    }

    private static void thenASign() {
        due.promise("then + or - .. or = .. or & (38) .. or / (47)");
        eachByte("a", "+-=" + (char) 38 + (char) 47, "", 0, "", 0);
    }

    private static void aNumberOfOneOrTwoDigits() {
        due.promise("+ or - and a number of one or two digits");
        for (String sign : new String[] {"+", "-"}) {
            eachByte("p" + sign, "", DIGITS, 1, "", 0);
            eachByte("p" + sign + "1", ";", DIGITS, 1, "", 0);
            eachByte("p" + sign + "09", ";", "", 0, DIGITS, 2);
        }
    }

    private static void aNumberOfOneToThreeDigits() {
        due.promise("or = and a number of one to three digits (GRAVITY)");
        eachByte("a=", "", DIGITS, 1, "", 0);
        eachByte("a=9", ";", DIGITS, 1, "", 0);
        eachByte("a=09", ";", DIGITS, 1, "", 0);
        eachByte("a=009", ";", "", 0, DIGITS, 2);
    }

    private static void aSecondLetter() {
        due.promise("or & and a letter (both are NEXT), or / and a letter (they are not)");
        eachByte("h&", "", "abcdefgijklmnop", 1, "h", 6);
        eachByte("h/", "", "abcdefgijklmnop", 1, "h", 6);
    }

    private static void behindALine() {
        due.promise("LINES with a ; (59) between two");
        eachByte("a&b", "" + (char) 59, "", 0, "", 0);
        eachByte("a&b;c/d", ";", "", 0, "", 0);
        due.is("two lines", faultOf("a&b;c/d"), 2);
        due.is("; ;", faultOf("a&b;;c/d"), -1004);
        due.is("; ahead", faultOf(";a&b"), -1000);
    }

    private static int temptation(int first, String text) {
        IdleCrimes x = new IdleCrimes();
        x.place(0, first, 1);
        due.is(text + " on " + first, Due.pleas(x, text), text.split(";").length);
        return x.placeIs(0, 0);
    }

    private static void temptationIs0To99() {
        due.promise("TEMPTATION more or less; 0 to 99");
        due.is("98 + 1", temptation(98, "a+1"), 99);
        due.is("98 + 2", temptation(98, "a+2"), 99);
        due.is("99 + 99", temptation(99, "a+99"), 99);
        due.is("0 + 99", temptation(0, "a+99"), 99);
        due.is("1 - 1", temptation(1, "a-1"), 0);
        due.is("1 - 2", temptation(1, "a-2"), 0);
        due.is("0 - 99", temptation(0, "a-99"), 0);
        due.is("99 - 99", temptation(99, "a-99"), 0);
        due.is("99 - 98", temptation(99, "a-98"), 1);
        due.is("0 + 0", temptation(0, "a+0"), 0);
        due.is("0 - 0", temptation(0, "a-0"), 0);
        due.is("99 + 0", temptation(99, "a+0"), 99);
        due.is("99 - 0", temptation(99, "a-0"), 99);
        due.is("7 + 0", temptation(7, "a+0"), 7);
        due.is("7 - 00", temptation(7, "a-00"), 7);
        due.is("7 + 01", temptation(7, "a+01"), 8);
    }

    private static void temptationStopsByEachLine() {
        due.promise("TEMPTATION, 0 to 99: LINE by LINE");
        due.is("up to it and down", temptation(50, "a+60;a-9"), 90);
        due.is("down to it and up", temptation(50, "a-60;a+9"), 9);
    }

    private static int gravity(String text) {
        IdleCrimes x = new IdleCrimes();
        x.place(0, 1, 500);
        due.is(text, Due.pleas(x, text), text.split(";").length);
        return x.placeIs(0, 1);
    }

    private static void gravityIsSet() {
        due.promise("= and a number (GRAVITY)");
        due.is("0", gravity("a=0"), 0);
        due.is("000", gravity("a=000"), 0);
        due.is("999", gravity("a=999"), 999);
        due.is("007", gravity("a=007"), 7);
        due.is("the last one", gravity("a=1;a=2"), 2);
    }

    private static void nextAreBoth() {
        due.promise("& (both are NEXT), / (they are not)");
        IdleCrimes x = town();
        Due.pleas(x, "a&p");
        due.is("p is next to a", x.placeIs(0, 4), 0x8000);
        due.is("a is next to p", x.placeIs(15, 4), 1);
        due.is("once more", Due.pleas(x, "p&a"), 1);
        due.is("one lane", x.lanes(0), 1);
        due.is("not next", Due.pleas(x, "p/a"), 1);
        due.is("none is next to a", x.placeIs(0, 4), 0);
        due.is("none is next to p", x.placeIs(15, 4), 0);
        due.is("not next once more", Due.pleas(x, "a/p"), 1);
        for (int p = 0; p < 16; p++) {
            for (int q = p + 1; q < 16; q++) {
                Due.pleas(x, "" + (char) ('a' + p) + '&' + (char) ('a' + q));
            }
        }
        due.is("all lanes", x.lanes(0), 120);
        due.is("all but itself", x.placeIs(9, 4), 0xFFFF & ~(1 << 9));
        Due.pleas(x, "a/p");
        due.is("all but one", x.lanes(0), 119);
    }

    private static void linesAre20AtMost() {
        due.promise("20 at most; how many LINES");
        for (int n = 1; n <= 20; n++) {
            due.is(n + " lines", faultOf(Due.times(n, "a+1", ";")), n);
        }
        due.is("21 lines", faultOf(Due.times(21, "a+1", ";")), -4080);
        due.is("30 lines", faultOf(Due.times(30, "a+1", ";")), -4080);
        IdleCrimes x = town();
        Due.pleas(x, Due.times(20, "a+1", ";"));
        due.is("all are done", x.placeIs(0, 0), 70);
    }

    private static void bytesAre120AtMost() {
        due.promise("a TEXT of at most 120 bytes; the first n bytes of the tape (1 to 120; empty then); NONE: no such n");
        String longest = Due.times(20, "a=123", ";");
        due.is("the longest without a fault has 119", longest.length(), 119);
        due.is("it can be", faultOf(longest), 20);
        due.bounds("pleas", n -> {
            IdleCrimes x = town();
            Due.text(x, longest + ";a=123;a=123");
            return x.pleas(n);
        }, 1, -1001, 120, -1120, -1);
        IdleCrimes x = town();
        Due.text(x, Due.times(5, "a=1", ";") + "a");
        due.is("one more than it has", x.pleas(21), -1);
        due.is("the tape stays", x.count(7), 20);
        due.is("as many as it has", x.pleas(20), -1019);
        due.is("empty then", x.count(7), 0);
        due.is("none left", x.pleas(1), -1);
        Due.text(x, "a=1;");
        due.is("what stands behind is not read", x.pleas(3), 1);
        due.is("but gone", x.count(7), 0);
    }

    private static void theEndCantStandThere() {
        due.promise("1 what can't stand there (the end, too)");
        String[] texts = {"a", "a+", "a-", "a=", "a&", "a/", "a+1;", "a+1;b", "a+1;b&"};
        for (String text : texts) {
            due.is(text, faultOf(text), -1000 - text.length());
        }
    }

    private static void aDigitTooMany() {
        due.promise("2 a digit too many, at it");
        due.is("+", faultOf("a+123"), -2004);
        due.is("-", faultOf("a-000"), -2004);
        due.is("=", faultOf("a=0000"), -2005);
        due.is("in a later line", faultOf("a=999;b+999"), -2010);
        due.is("the first of many", faultOf("a+999999"), -2004);
    }

    private static void aTwentyFirstLine() {
        due.promise("4 a 21st LINE, at its letter (if that can stand there)");
        String twenty = Due.times(20, "a=1", ";") + ";";
        for (int b = 0; b < 256; b++) {
            boolean can = b > 0 && PLACES.indexOf(b) >= 0;
            due.is("the byte " + b, faultOf(twenty + (char) b), can ? -4080 : -1080);
        }
        due.is("the end", faultOf(twenty), -1080);
    }

    private static void aPlaceAndItself() {
        due.promise("6 a PLACE and itself, at the second letter");
        for (int p = 0; p < 16; p++) {
            char letter = PLACES.charAt(p);
            due.is("&", faultOf("" + letter + '&' + letter), -6002);
            due.is("/", faultOf("" + letter + '/' + letter), -6002);
        }
        due.is("in a later line", faultOf("a&b;b/b;"), -6006);
    }

    private static void aPlaceThatIsNotTold() {
        due.promise("7 a PLACE that is not told, at its letter");
        for (int p = 0; p < 16; p++) {
            IdleCrimes x = new IdleCrimes();
            int other = (p + 1) % 16;
            x.place(other, 1, 1);
            char letter = PLACES.charAt(p);
            char told = PLACES.charAt(other);
            due.is("first letter", Due.pleas(x, letter + "+1"), -7000);
            due.is("second letter", Due.pleas(x, told + "&" + letter), -7002);
            due.is("second letter of /", Due.pleas(x, told + "/" + letter), -7002);
            due.is("later line", Due.pleas(x, told + "+1;" + letter + "=1"), -7004);
            due.is("told", Due.pleas(x, told + "+1"), 1);
        }
        due.is("without places", Due.pleas(new IdleCrimes(), "a"), -7000);
    }

    private static void notToldIsBehind4And6() {
        due.promise("7 (behind 4, 6)");
        IdleCrimes x = new IdleCrimes();
        x.place(0, 1, 1);
        due.is("a 21st line of what is not told", Due.pleas(x, Due.times(20, "a+1", ";") + ";b+1"), -4080);
        due.is("a 20th line of what is not told", Due.pleas(x, Due.times(19, "a+1", ";") + ";b+1"), -7076);
        due.is("a told place and itself", Due.pleas(x, "a&a"), -6002);
    }

    private static void nothingIsDoneWithAFault() {
        due.promise("Nothing is done by PLEAS with a FAULT");
        String good = "a+9;b-9;c=9;d&e;f/g";
        String[] faults = {";", ";z", ";a+", ";a+123", ";a&a", ",", ";a+1;b=1234"};
        for (String fault : faults) {
            IdleCrimes x = town();
            Due.pleas(x, "f&g");
            String before = Whole.of(x);
            IdleCrimes y = town();
            Due.pleas(y, "f&g");
            due.is(fault, Due.pleas(y, good + fault) < -1, true);
            due.is("as it was", Whole.of(y), before);
        }
        IdleCrimes x = new IdleCrimes();
        x.place(0, 50, 500);
        due.is("not told", Due.pleas(x, "a+9;a=9;b+1"), -7008);
        due.is("temptation", x.placeIs(0, 0), 50);
        due.is("gravity", x.placeIs(0, 1), 500);
        due.is("21 lines", Due.pleas(x, Due.times(21, "a+1", ";")), -4080);
        due.is("temptation still", x.placeIs(0, 0), 50);
    }

    private static void firstFromTheLeft() {
        due.promise("a FAULT: the first from the left");
        IdleCrimes x = new IdleCrimes();
        x.place(0, 1, 1);
        due.is("7 ahead of 1", Due.pleas(x, "b*"), -7000);
        due.is("1 ahead of 7", Due.pleas(x, "a*;b+1"), -1001);
        due.is("2 ahead of 7", Due.pleas(x, "a+123;b+1"), -2004);
        due.is("7 ahead of 2", Due.pleas(x, "b+1;a+123"), -7000);
        due.is("6 ahead of 1", Due.pleas(x, "a&a*"), -6002);
        due.is("7 ahead of a 21st line", Due.pleas(x, "b+1;" + Due.times(20, "a+1", ";")), -7000);
    }
}
