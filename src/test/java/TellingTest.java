/** Promises 1 to 7, 29 and 33: what is told, the tape, the texts and their faults. */
public final class TellingTest {
    private static final Due due = new Due();

    public static void main(String[] args) {
        newObject();
        places();
        constables();
        tape();
        lawRules();
        lawFaults();
        lawDepth();
        lawTape();
        beatSteps();
        beatFaults();
        pleasLines();
        pleasFaults();
        pleasDoNothingWithAFault();
        seeds();
        counts();
        due.tell();
    }

    private static void newObject() {
        due.promise("promise 1");
        IdleCrimes x = new IdleCrimes();
        for (int what = 0; what < 8; what++) {
            due.is("count(" + what + ")", x.count(what), 0);
        }
        due.is("count(8)", x.count(8), 1);
        due.is("NONE", IdleCrimes.NONE, -1);
        due.is("placeIs(0, 0)", x.placeIs(0, 0), -1);
        due.is("constableIs(0, 0)", x.constableIs(0, 0), -1);
        due.is("undo()", x.undo(), false);
    }

    private static void places() {
        due.promise("promise 2");
        IdleCrimes x = new IdleCrimes();
        due.is("place(-1, 0, 0)", x.place(-1, 0, 0), false);
        due.is("place(16, 0, 0)", x.place(16, 0, 0), false);
        due.is("place(0, -1, 0)", x.place(0, -1, 0), false);
        due.is("place(0, 100, 0)", x.place(0, 100, 0), false);
        due.is("place(0, 0, -1)", x.place(0, 0, -1), false);
        due.is("place(0, 0, 1000)", x.place(0, 0, 1000), false);
        due.is("place(MIN)", x.place(Integer.MIN_VALUE, 0, 0), false);
        due.is("none told", x.count(3), 0);
        due.is("place(0, 99, 999)", x.place(0, 99, 999), true);
        due.is("place(15, 0, 0)", x.place(15, 0, 0), true);
        due.is("told", x.count(3), 0x8001);
        due.is("temptation", x.placeIs(0, 0), 99);
        due.is("gravity", x.placeIs(0, 1), 999);
        due.is("since", x.placeIs(0, 2), 0);
        Due.pleas(x, "a&p");
        x.hours(3);
        due.is("again", x.place(0, 7, 8), true);
        due.is("temptation again", x.placeIs(0, 0), 7);
        due.is("gravity again", x.placeIs(0, 1), 8);
        due.is("since stays", x.placeIs(0, 2), 3);
        due.is("next stays", x.placeIs(0, 4), 0x8000);
        due.is("refused again", x.place(0, 100, 5), false);
        due.is("nothing is changed", x.placeIs(0, 1), 8);
    }

    private static void constables() {
        due.promise("promise 3");
        IdleCrimes x = new IdleCrimes();
        due.is("no place", x.constable(0, 0), false);
        x.place(3, 1, 1);
        x.place(4, 1, 1);
        due.is("constable(-1)", x.constable(-1, 3), false);
        due.is("constable(8)", x.constable(8, 3), false);
        due.is("place -1", x.constable(0, -1), false);
        due.is("place 16", x.constable(0, 16), false);
        due.is("place not told", x.constable(0, 5), false);
        due.is("nobody", x.count(4), 0);
        due.is("constable(7, 3)", x.constable(7, 3), true);
        due.is("constable(0, 4)", x.constable(0, 4), true);
        due.is("told", x.count(4), 0x81);
        Due.law(x, "w9(1=1)");
        Due.beat(x, 7, "5.");
        x.hours(2);
        due.is("wage", x.constableIs(7, 1), 18);
        due.is("again", x.constable(7, 4), true);
        due.is("wage is 0", x.constableIs(7, 1), 0);
        due.is("moved", x.constableIs(7, 0), 4);
        due.is("beat stays", x.constableIs(7, 2), 5);
        due.is("there now", x.placeIs(4, 3), 0x81);
        due.is("what 3", x.constableIs(7, 3), -1);
        due.is("what -1", x.constableIs(7, -1), -1);
        due.is("not told", x.constableIs(1, 0), -1);
        due.is("no such", x.constableIs(8, 0), -1);
        due.is("no such below", x.constableIs(-1, 0), -1);
        due.is("no such far", x.constableIs(32, 0), -1);
        due.is("refused", x.constable(7, 9), false);
        due.is("stays", x.constableIs(7, 0), 4);
    }

    private static void tape() {
        due.promise("promise 4");
        IdleCrimes x = new IdleCrimes();
        for (int i = 1; i <= 13; i++) {
            due.is("feed " + i, x.feed(-1, 2, 3, 4, 5), 20 * i);
        }
        due.is("a fourteenth", x.feed(1, 2, 3, 4, 5), -1);
        due.is("bytes", x.count(7), 260);
        x = new IdleCrimes();
        x.place(0, 0, 0);
        x.place(1, 1, 0);
        x.place(2, 2, 0);
        x.place(3, 3, 0);
        x.feed(0x00010203, 0xFFFFFFFF, 0xFFFFFFFF, 0xFFFFFFFF, 0xFFFFFFFF);
        due.is("highest byte first", x.check(16), -1);
    }

    private static void lawRules() {
        due.promise("promise 5");
        IdleCrimes x = new IdleCrimes();
        due.is("one", Due.law(x, "w5(p=0)"), 1);
        due.is("three", Due.law(x, "w[t+1]*2%7(c>0&!n=0|h<12);s(l=1);r10(d=0)"), 3);
        due.is("count(6)", x.count(6), 3);
        due.is("in place of it", Due.law(x, "s(!(p=1|p=2)&t>g)"), 1);
        due.is("count(6) then", x.count(6), 1);
        due.is("sixteen", Due.law(x, Due.times(16, "s(p=0)", ";")), 16);
        due.is("numbers", Due.law(x, "r12345(00000=99999)"), 1);
        due.is("all letters", Due.law(x, "wp+t-g*c/n%l+h-d(p+t-g*c/n%l+h-d<p)"), 1);
    }

    private static void lawFaults() {
        due.promise("promise 5, faults");
        IdleCrimes x = new IdleCrimes();
        Due.law(x, "s(p=0);s(p=1)");
        String[] texts = {"x", "w", "s", "s5(p=0)", "w(p=0)", "w5", "w5(", "w5()", "w5(p", "w5(p)", "w5(p=", "w5(p=)",
            "w5(p=0", "w5(p=0;", "w5(p=0)w", "w5(p=0);", "w5(p=0);x", "w5(p=0=1)", "w5(p=0&)", "w5(p=0|)", "w5(!)",
            "w5((p))", "w5((p=0)+1=1)", "w5([p=0])", "w[5(p=0)", "w5](p=0)", "w5+(p=0)", "w5*+1(p=0)", "w-5(p=0)",
            "w5(p<=0)", "w5 (p=0)", "w5(a=0)", "w5(P=0)", "w5(p=0))", "W5(p=0)", "w5(p!0)", "w[](p=0)", "\u00e95(p=0)"};
        int[] places = {0, 1, 1, 1, 1, 2, 3, 3, 4, 4, 5, 5, 6, 6, 7, 8, 8, 6, 7, 7, 4, 5, 8, 5, 3, 2, 3, 3, 1, 5, 2, 3,
            3, 7, 0, 4, 2, 0};
        for (int i = 0; i < texts.length; i++) {
            due.is(texts[i], Due.law(x, texts[i]), -1000 - places[i]);
            due.is("the one before stays", x.count(6), 2);
            due.is("the tape is empty", x.count(7), 0);
        }
        due.is("sixth digit", Due.law(x, "w123456(p=0)"), -2006);
        due.is("sixth digit in C", Due.law(x, "w1(p=000000)"), -2010);
        due.is("seventeenth", Due.law(x, Due.times(16, "s(p=0)", ";") + ";w"), -4112);
        due.is("seventeenth can't stand", Due.law(x, Due.times(16, "s(p=0)", ";") + ";x"), -1112);
        due.is("seventeenth is missing", Due.law(x, Due.times(16, "s(p=0)", ";") + ";"), -1112);
        due.is("first from the left", Due.law(x, "w123456(((((((("), -2006);
    }

    private static void lawDepth() {
        due.promise("promise 5, depth");
        IdleCrimes x = new IdleCrimes();
        due.is("six (", Due.law(x, "s((((((p=0))))))"), 1);
        due.is("seven (", Due.law(x, "s(((((((p=0)))))))"), -5007);
        due.is("six [ ahead", Due.law(x, "w[[[[[[5]]]]]](p=0)"), 1);
        due.is("seven [ ahead", Due.law(x, "w[[[[[[[5]]]]]]](p=0)"), -5007);
        due.is("[ in (", Due.law(x, "s([[[[[p]]]]]=[[[[[0]]]]])"), 1);
        due.is("[ in ( seventh", Due.law(x, "s([[[[[[p]]]]]]=0)"), -5007);
        due.is("! five", Due.law(x, "s(!!!!!p=0)"), 1);
        due.is("! six", Due.law(x, "s(!!!!!!p=0)"), -5007);
        due.is("! ends with its test", Due.law(x, "s(!!!!!p=0&!!!!!p=0|!!!!!p=0)"), 1);
        due.is("! and [", Due.law(x, "s(!!!!![p]=0)"), -5007);
        due.is("! and [ behind =", Due.law(x, "s(!!!!!p=[0])"), -5009);
        due.is("! and (", Due.law(x, "s(!(!(!(p=0))))"), -5007);
        due.is("! and ( just so", Due.law(x, "s(!(!(!p=0)))"), 1);
        due.is("closed ones", Due.law(x, "s((((((p=0)))))&(((((p=0))))))"), 1);
        due.is("one of another kind", Due.law(x, "s(((((([p]=0))))))"), -5007);
        due.is("can't stand there", Due.law(x, "s((((((])"), -1007);
    }

    private static void lawTape() {
        due.promise("promise 5, tape");
        IdleCrimes x = new IdleCrimes();
        Due.text(x, "s(p=0)");
        due.is("law(0)", x.law(0), -1);
        due.is("law(-1)", x.law(-1), -1);
        due.is("law(241)", x.law(241), -1);
        due.is("not so many", x.law(21), -1);
        due.is("the tape stays", x.count(7), 20);
        due.is("law(20)", x.law(20), -1006);
        due.is("empty then", x.count(7), 0);
        due.is("no tape", x.law(1), -1);
        String full = "s(" + Due.times(58, "p=0", "|") + "|pp=0)";
        due.is("p behind p", Due.law(x, full), -1000 - full.indexOf("pp") - 1);
        full = "s(" + Due.times(58, "p=0", "|") + "|99=0)";
        due.is("length", full.length(), 239);
        due.is("239 bytes", Due.law(x, full), 1);
        Due.text(x, "s(" + Due.times(58, "p=0", "|") + "|999=0)");
        due.is("240 bytes", x.law(240), 1);
        for (int i = 0; i < 13; i++) {
            x.feed(0, 0, 0, 0, 0);
        }
        due.is("law(241) of 260", x.law(241), -1);
        due.is("law(240) of 260", x.law(240), -1000);
        due.is("all are gone", x.count(7), 0);
    }

    private static void beatSteps() {
        due.promise("promise 6");
        IdleCrimes x = new IdleCrimes();
        String[] texts = {"a", ".", "p", "9.", "abc", "2a3b", "(a)", "2(a)", "((a))", "3(2a(b.)2(c))", "5(9a)3a", "9(5a)3b",
            "6(8a)", "2(3(8p))"};
        int[] steps = {1, 1, 1, 9, 3, 5, 1, 2, 1, 18, 48, 48, 48, 48};
        for (int i = 0; i < texts.length; i++) {
            due.is(texts[i], Due.beat(x, 0, texts[i]), steps[i]);
        }
        due.is("48 letters", Due.beat(x, 7, Due.times(48, "a", "")), 48);
        due.is("not told", x.constableIs(0, 2), -1);
        x.place(0, 0, 0);
        x.constable(0, 0);
        due.is("told later", x.constableIs(0, 2), 48);
        x.constable(7, 0);
        due.is("the other", x.constableIs(7, 2), 48);
        Due.beat(x, 0, "b.");
        due.is("in place of it", x.constableIs(0, 2), 2);
        due.is("the other stays", x.constableIs(7, 2), 48);
        x.constable(1, 0);
        due.is("none at first", x.constableIs(1, 2), 0);
    }

    private static void beatFaults() {
        due.promise("promise 6, faults");
        IdleCrimes x = new IdleCrimes();
        x.place(0, 0, 0);
        x.constable(0, 0);
        Due.beat(x, 0, "a.a");
        String[] texts = {"q", "A", "3", "1a", "0a", "23a", "()", "2()", "(a", "a)", "(2)", "(((a", "4(3(2(a)))", "(a(b(c", "6(9a)",
            "5(9a)4a", "5(9a)2(2a)", "5(9a)(3.a)", "9(3a3a)", "2(9(9a))", "9(9aq)", "(5(9a)4a)", "9(2(3a))", "a a",
            "9a9a9a9a9a4a", "9a9a9a9a9a3a(b)"};
        int[] faults = {-1000, -1000, -1001, -1000, -1000, -1001, -1001, -1002, -1002, -1001, -1002, -5002, -5005, -5004, -6000,
            -6005, -6005, -6008, -6000, -6002, -1004, -6006, -6000, -1001, -6010, -6013};
        for (int i = 0; i < texts.length; i++) {
            due.is(texts[i], Due.beat(x, 0, texts[i]), faults[i]);
            due.is("the one before stays", x.constableIs(0, 2), 3);
            due.is("the tape is empty", x.count(7), 0);
        }
        due.is("49 letters", Due.beat(x, 0, Due.times(49, "a", "")), -6048);
        due.is("60 of them, the last can't stand", Due.beat(x, 0, Due.times(48, "a", "") + "q"), -1048);
        Due.text(x, Due.times(4, "aaaaaaaaaaaaaaaaaaaa", ""));
        due.is("beat(8)", x.beat(8, 1), -1);
        due.is("beat(-1)", x.beat(-1, 1), -1);
        due.is("beat(0, 0)", x.beat(0, 0), -1);
        due.is("beat(0, 61)", x.beat(0, 61), -1);
        due.is("the tape stays", x.count(7), 80);
        due.is("beat(0, 60)", x.beat(0, 60), -6048);
        due.is("not so many", x.beat(0, 1), -1);
    }

    private static void pleasLines() {
        due.promise("promise 7");
        IdleCrimes x = new IdleCrimes();
        x.place(0, 50, 5);
        x.place(1, 50, 5);
        x.place(15, 50, 5);
        due.is("more", Due.pleas(x, "a+9"), 1);
        due.is("temptation", x.placeIs(0, 0), 59);
        due.is("less", Due.pleas(x, "a-10;b-00"), 2);
        due.is("temptation then", x.placeIs(0, 0), 49);
        due.is("bounds, one behind the other", Due.pleas(x, "a+99;a-9;b-99;b+3"), 4);
        due.is("at most", x.placeIs(0, 0), 90);
        due.is("at least", x.placeIs(1, 0), 3);
        due.is("0 stays 0", Due.pleas(x, "b-9;b+0"), 2);
        due.is("0", x.placeIs(1, 0), 0);
        due.is("gravity", Due.pleas(x, "a=7;b=999;p=000"), 3);
        due.is("gravity a", x.placeIs(0, 1), 7);
        due.is("gravity b", x.placeIs(1, 1), 999);
        due.is("gravity p", x.placeIs(15, 1), 0);
        due.is("next", Due.pleas(x, "a&b;p&a"), 2);
        due.is("next to a", x.placeIs(0, 4), 0x8002);
        due.is("next to p", x.placeIs(15, 4), 1);
        due.is("not next", Due.pleas(x, "b/a;b/p"), 2);
        due.is("next to a then", x.placeIs(0, 4), 0x8000);
        due.is("next to b then", x.placeIs(1, 4), 0);
        due.is("twenty", Due.pleas(x, Due.times(20, "a-1", ";")), 20);
        due.is("twenty less", x.placeIs(0, 0), 70);
    }

    private static void pleasFaults() {
        due.promise("promise 7, faults");
        IdleCrimes x = new IdleCrimes();
        x.place(0, 50, 5);
        x.place(1, 50, 5);
        String twenty = Due.times(20, "a+1", ";");
        String[] texts = {"x", "q", "a", "a*", "a+", "a+x", "a+1x", "a+123", "a=", "a=1234", "a&", "a&q", "a&1", "a&a", "a/a", "a&c",
            "c&c", "c", "a+1;", "a+1;;", "a+1,", "a&b1", "a&b;b&c;x", " a+1", twenty + ";a", twenty + ";c", twenty + ";q", twenty + ";",
            twenty + ",", "a-100", "b=0000", "A+1"};
        int[] faults = {-1000, -1000, -1001, -1001, -1002, -1002, -1003, -2004, -1002, -2005, -1002, -1002, -1002, -6002, -6002,
            -7002, -7000, -7000, -1004, -1004, -1003, -1003, -7006, -1000, -4080, -4080, -1080, -1080, -1079, -2004, -2005, -1000};
        for (int i = 0; i < texts.length; i++) {
            due.is(texts[i], Due.pleas(x, texts[i]), faults[i]);
            due.is("the tape is empty", x.count(7), 0);
        }
        due.is("temptation", x.placeIs(0, 0), 50);
        due.is("no lanes", x.lanes(0), 0);
    }

    private static void pleasDoNothingWithAFault() {
        due.promise("promise 7, nothing is done");
        IdleCrimes x = new IdleCrimes();
        x.place(0, 50, 5);
        x.place(1, 50, 5);
        due.is("a fault at the end", Due.pleas(x, "a&b;a+9;a=9;"), -1012);
        due.is("temptation", x.placeIs(0, 0), 50);
        due.is("gravity", x.placeIs(0, 1), 5);
        due.is("next", x.placeIs(0, 4), 0);
        Due.text(x, Due.times(7, "aaaaaaaaaaaaaaaaaaaa", ""));
        due.is("pleas(0)", x.pleas(0), -1);
        due.is("pleas(121)", x.pleas(121), -1);
        due.is("the tape stays", x.count(7), 140);
        due.is("pleas(120)", x.pleas(120), -1001);
        due.is("not so many", x.pleas(1), -1);
    }

    private static void seeds() {
        due.promise("promise 29");
        IdleCrimes x = new IdleCrimes();
        due.is("seed(-1)", x.seed(-1), false);
        due.is("seed(65536)", x.seed(65536), false);
        due.is("stays", x.count(8), 1);
        due.is("seed(65535)", x.seed(65535), true);
        due.is("X", x.count(8), 65535);
        due.is("seed(0)", x.seed(0), true);
        due.is("X 0", x.count(8), 0);
        x.place(0, 0, 0);
        x.hours(1);
        due.is("one draw", x.count(8), 13849);
    }

    private static void counts() {
        due.promise("promise 33");
        IdleCrimes x = new IdleCrimes();
        x.place(0, 1, 10);
        x.place(2, 1, 10);
        x.place(4, 1, 10);
        x.constable(1, 0);
        x.constable(3, 0);
        Due.law(x, "r10(1=1);w7(1=1)");
        x.hours(2);
        x.feed(0, 0, 0, 0, 0);
        int[] counted = {2, 4, 40, 0x15, 0x0A, 28, 2, 20};
        for (int what = 0; what < counted.length; what++) {
            due.is("count(" + what + ")", x.count(what), counted[what]);
        }
        due.is("count(-1)", x.count(-1), -1);
        due.is("count(9)", x.count(9), -1);
        due.is("count(MAX)", x.count(Integer.MAX_VALUE), -1);
    }
}
