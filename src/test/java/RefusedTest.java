import java.util.function.ToIntFunction;

/** "A call that is refused (NONE, false) changes nothing but the tape, where it is told", and which answer is told first. */
public final class RefusedTest {
    private static final Due due = new Due();
    private static final int MIN = Integer.MIN_VALUE;
    private static final int MAX = Integer.MAX_VALUE;

    /** A Scene's temptations, and what all else is while they stand on the tape, or while it is empty. */
    private static final int[] TAPE = Scene.temptations(Scene.make());
    private static final String TAPE_STAYS = Whole.toTheEnd(fed(), TAPE);
    private static final String TAPE_IS_EMPTY = Whole.toTheEnd(Scene.make());

    public static void main(String[] args) {
        theTapeIsSeen();
        telling();
        texts();
        hours();
        hoursThatAreTried();
        standing();
        streets();
        bytesOfTheTape();
        bytesNotSoMany();
        nothingIsKept();
        faultsEmptyTheTape();
        otherAnswersEmptyTheTape();
        emptyObject();
        due.tell();
    }

    private static IdleCrimes fed() {
        IdleCrimes x = Scene.make();
        Due.bytes(x, TAPE);
        return x;
    }

    /** A call that is refused while bytes stand on the tape: all is as it was, the tape too. */
    private static void refused(String call, ToIntFunction<IdleCrimes> ask, int answer) {
        IdleCrimes x = fed();
        due.is(call, ask.applyAsInt(x), answer);
        due.is("all is as it was behind " + call, Whole.toTheEnd(x, TAPE).equals(TAPE_STAYS), true);
    }

    /** A call that has read the tape and changes nothing else. */
    private static void empties(String call, int[] bytes, ToIntFunction<IdleCrimes> ask, int answer) {
        IdleCrimes x = Scene.make();
        Due.bytes(x, bytes);
        due.is(call, ask.applyAsInt(x), answer);
        due.is("all but the tape is as it was behind " + call, Whole.toTheEnd(x).equals(TAPE_IS_EMPTY), true);
    }

    private static int[] bytes(String text) {
        return text.chars().toArray();
    }

    private static void theTapeIsSeen() {
        due.promise("this test sees what changes");
        due.is("the tape is not empty", TAPE_STAYS.equals(TAPE_IS_EMPTY), false);
        due.is("it is right", TAPE_STAYS.contains("tape -1\n"), true);
        due.is("one was kept", TAPE_STAYS.contains("undo 1\n"), true);
        String[] others = {"place", "constable", "law", "beat", "pleas", "hours", "seed", "keep", "undo"};
        for (String other : others) {
            IdleCrimes x = fed();
            change(x, other);
            due.is(other + " would be seen", Whole.toTheEnd(x, TAPE).equals(TAPE_STAYS), false);
        }
    }

    private static void change(IdleCrimes x, String what) {
        switch (what) {
            case "place": x.place(1, 15, 150); break;
            case "constable": x.constable(3, 8 + 1); break;
            case "law": x.law(1); break;
            case "beat": x.beat(1, 1); break;
            case "pleas": x.pleas(1); break;
            case "hours": x.hours(1); break;
            case "seed": x.seed(x.count(8) ^ 1); break;
            case "keep": x.keep(); break;
            default: x.undo(); break;
        }
    }

    private static void telling() {
        due.promise("false: no such ones");
        for (int p : new int[] {-1, 16, MIN, MAX}) {
            refused("place(" + p + ")", x -> Due.bit(x.place(p, 1, 1)), 0);
            refused("constable at " + p, x -> Due.bit(x.constable(0, p)), 0);
        }
        for (int t : new int[] {-1, 100, MIN, MAX}) {
            refused("temptation " + t, x -> Due.bit(x.place(0, t, 1)), 0);
        }
        for (int g : new int[] {-1, 1000, MIN, MAX}) {
            refused("gravity " + g, x -> Due.bit(x.place(0, 1, g)), 0);
        }
        for (int c : new int[] {-1, 8, 31, 32, MIN, MAX}) {
            refused("constable " + c, x -> Due.bit(x.constable(c, 0)), 0);
        }
        refused("a place that is not told", x -> Due.bit(x.constable(0, 8)), 0);
        refused("a new place with a wrong number", x -> Due.bit(x.place(12, 0, 1000)), 0);
        for (int s : new int[] {-1, 65536, MIN, MAX}) {
            refused("seed(" + s + ")", x -> Due.bit(x.seed(s)), 0);
        }
    }

    private static void texts() {
        due.promise("NONE: no such n, it has not so many (the tape stays)");
        for (int n : new int[] {0, -1, 21, 240, 241, 260, MIN, MAX}) {
            refused("law(" + n + ")", x -> x.law(n), -1);
        }
        for (int n : new int[] {0, -1, 21, 60, 61, MIN, MAX}) {
            refused("beat(0, " + n + ")", x -> x.beat(0, n), -1);
        }
        for (int n : new int[] {0, -1, 21, 120, 121, MIN, MAX}) {
            refused("pleas(" + n + ")", x -> x.pleas(n), -1);
        }
        for (int c : new int[] {-1, 8, MIN, MAX}) {
            refused("beat(" + c + ", 1)", x -> x.beat(c, 1), -1);
        }
        refused("a fourteenth feed", x -> {
            for (int i = 0; i < 12; i++) {
                x.feed(0, 0, 0, 0, 0);
            }
            int answer = x.feed(1, 2, 3, 4, 5);
            due.is("it has 260", x.count(7), 260);
            due.is("they are right", x.check(16), -1);
            Due.bytes(x, TAPE);
            return answer;
        }, -1);
    }

    private static void hours() {
        due.promise("NONE: no such n");
        for (int n : new int[] {0, -1, 241, MIN, MAX}) {
            refused("hours(" + n + ")", x -> x.hours(n), -1);
        }
    }

    private static void hoursThatAreTried() {
        due.promise("NONE: no such ones");
        for (int n : new int[] {0, -1, 241, MIN, MAX}) {
            refused("tried(" + n + ", 0)", x -> x.tried(n, 0), -1);
            refused("alone(0, " + n + ")", x -> x.alone(0, n), -1);
            refused("together(0, 1, " + n + ")", x -> x.together(0, 1, n), -1);
            refused("seen(" + n + ")", x -> x.seen(n), -1);
            refused("quiet(" + n + ")", x -> x.quiet(n), -1);
        }
        // constables 2, 4, 5, 6 and places h, i, k and on are not told
        for (int what : new int[] {-1, 3, 9, 12, 16, 18, 19, 22, 26, 28, 29, 37, 38, 40, 45, 46, MIN, MAX}) {
            refused("tried(5, " + what + ")", x -> x.tried(5, what), -1);
        }
        for (int p : new int[] {-1, 7, 8, 15, 16, MIN, MAX}) {
            refused("alone(" + p + ", 5)", x -> x.alone(p, 5), -1);
        }
        for (int c : new int[] {-1, 2, 8, MIN, MAX}) {
            refused("together(" + c + ", 0, 5)", x -> x.together(c, 0, 5), -1);
            refused("together(0, " + c + ", 5)", x -> x.together(0, c, 5), -1);
        }
        refused("together(3, 3, 5)", x -> x.together(3, 3, 5), -1);
    }

    private static void standing() {
        due.promise("NONE for others");
        for (int what : new int[] {-1, 5, MIN, MAX}) {
            refused("placeIs(0, " + what + ")", x -> x.placeIs(0, what), -1);
        }
        for (int what : new int[] {-1, 3, MIN, MAX}) {
            refused("constableIs(0, " + what + ")", x -> x.constableIs(0, what), -1);
        }
        for (int what : new int[] {-1, 9, MIN, MAX}) {
            refused("count(" + what + ")", x -> x.count(what), -1);
        }
        for (int one : new int[] {-1, 16, MIN, MAX}) {
            refused("placeIs(" + one + ", 0)", x -> x.placeIs(one, 0), -1);
            refused("constableIs(" + one + ", 0)", x -> x.constableIs(one, 0), -1);
        }
        refused("placeIs(7, 0)", x -> x.placeIs(7, 0), -1);
        refused("constableIs(2, 0)", x -> x.constableIs(2, 0), -1);
        refused("constableIs(8, 0)", x -> x.constableIs(8, 0), -1);
    }

    private static void streets() {
        due.promise("NONE: no such ones");
        for (int p : new int[] {-1, 7, 8, 15, 16, MIN, MAX}) {
            refused("ways(" + p + ", 0)", x -> x.ways(p, 0), -1);
            refused("ways(0, " + p + ")", x -> x.ways(0, p), -1);
            refused("way(" + p + ", 0, 0)", x -> x.way(p, 0, 0), -1);
            refused("way(0, " + p + ", 100)", x -> x.way(0, p, 100), -1);
            refused("round(" + p + ", 3, 0)", x -> x.round(p, 3, 0), -1);
            refused("watches(" + p + ")", x -> x.watches(p), -1);
            refused("nearest(" + p + ", 0)", x -> x.nearest(p, 0), -1);
        }
        for (int what : new int[] {-1, 2, MIN, MAX}) {
            refused("posts(" + what + ")", x -> x.posts(what), -1);
            refused("round(0, 3, " + what + ")", x -> x.round(0, 3, what), -1);
            refused("nearest(0, " + what + ")", x -> x.nearest(0, what), -1);
        }
        for (int k : new int[] {0, -1, 9, MIN, MAX}) {
            refused("round(0, " + k + ", 0)", x -> x.round(0, k, 0), -1);
        }
        for (int what : new int[] {-1, 4, MIN, MAX}) {
            refused("lanes(" + what + ")", x -> x.lanes(what), -1);
        }
        for (int what : new int[] {-1, 16, 99, 101, MIN, MAX}) {
            refused("way(0, 1, " + what + ")", x -> x.way(0, 1, what), -1);
            refused("watches(" + what + ")", x -> x.watches(what), -1);
        }
        refused("way(0, 9, 100)", x -> x.way(0, 9, 100), -2);
        refused("way(0, 1, 15)", x -> x.way(0, 1, 15), -4);
        refused("ways(0, 9)", x -> x.ways(0, 9), 0);
    }

    private static void bytesOfTheTape() {
        due.promise("NONE: no such ones (the tape stays)");
        for (int n : new int[] {0, -1, MIN, MAX, 1 << 30}) {
            refused("alibis(" + n + ", 0, 0)", x -> x.alibis(n, 0, 0), -1);
            refused("bench(" + n + ", 2, 0)", x -> x.bench(n, 2, 0), -1);
            refused("bench(2, " + n + ", 0)", x -> x.bench(2, n, 0), -1);
            refused("likely(" + n + ", 0)", x -> x.likely(n, 0), -1);
            refused("share(" + n + ", 0)", x -> x.share(n, 0), -1);
            refused("odds(" + n + ", 0)", x -> x.odds(n, 0), -1);
        }
        refused("bench(1, 1, 0)", x -> x.bench(1, 1, 0), -1);
        refused("bench(7, 1, 0)", x -> x.bench(7, 1, 0), -1);
        refused("bench(2, 10, 0)", x -> x.bench(2, 10, 0), -1);
        refused("odds(10, 0)", x -> x.odds(10, 0), -1);
        for (int p : new int[] {-1, 7, 16, MIN, MAX}) {
            refused("alibis(1, " + p + ", 0)", x -> x.alibis(1, p, 0), -1);
        }
        for (int hour : new int[] {-1, 256, MIN, MAX}) {
            refused("alibis(1, 0, " + hour + ")", x -> x.alibis(1, 0, hour), -1);
        }
        for (int what : new int[] {-1, 3, MIN, MAX}) {
            refused("bench(2, 1, " + what + ")", x -> x.bench(2, 1, what), -1);
            refused("likely(1, " + what + ")", x -> x.likely(1, what), -1);
        }
        for (int c : new int[] {-1, 8, MIN, MAX}) {
            refused("share(1, " + c + ")", x -> x.share(1, c), -1);
        }
        for (int what : new int[] {-1, 6, MIN, MAX}) {
            refused("odds(1, " + what + ")", x -> x.odds(1, what), -1);
        }
        for (int n : new int[] {-1, 17, MIN, MAX}) {
            refused("check(" + n + ")", x -> x.check(n), -2);
        }
    }

    private static void bytesNotSoMany() {
        due.promise("NONE: .. it has not so many (the tape stays)");
        refused("alibis(6, 0, 0)", x -> x.alibis(6, 0, 0), -1);
        refused("bench(3, 7, 0)", x -> x.bench(3, 7, 0), -1);
        refused("likely(11, 0)", x -> x.likely(11, 0), -1);
        refused("share(11, 0)", x -> x.share(11, 0), -1);
        for (int n = 1; n <= 12; n++) {
            IdleCrimes x = new IdleCrimes();
            x.place(0, 1, 1);
            int many = n;
            due.is("alibis of none", x.alibis(Math.min(many, 10), 0, 0), -1);
            due.is("bench of none", x.bench(2, Math.min(many, 9), 0), -1);
            due.is("likely of none", x.likely(many, 0), -1);
            due.is("share of none", x.share(many, 0), -1);
            due.is("odds of none", x.odds(Math.min(many, 9), 0), -1);
            due.is("check of none", x.check(many), -2);
            due.is("law of none", x.law(many), -1);
            due.is("beat of none", x.beat(0, many), -1);
            due.is("pleas of none", x.pleas(many), -1);
        }
    }

    private static void nothingIsKept() {
        due.promise("false: none was KEPT");
        IdleCrimes x = new IdleCrimes();
        x.place(0, 1, 1);
        x.hours(7);
        IdleCrimes y = new IdleCrimes();
        y.place(0, 1, 1);
        y.hours(7);
        due.is("undo()", x.undo(), false);
        due.is("as it was", Whole.of(x), Whole.of(y));
        due.is("still none", x.undo(), false);
    }

    private static void faultsEmptyTheTape() {
        due.promise("a FAULT changes nothing but the tape (empty then)");
        String[] laws = {"x", "w", "w123456(p=0)", Due.times(17, "s(p=0)", ";"), "s(((((((", "w9(1=1);r9(1=1)x"};
        int[] faults = {-1000, -1001, -2006, -4112, -5007, -1015};
        for (int i = 0; i < laws.length; i++) {
            String text = laws[i];
            empties("law " + text, bytes(text), x -> x.law(text.length()), faults[i]);
        }
        String[] beats = {"q", "2", "(((", "9(9a)", "ab("};
        faults = new int[] {-1000, -1001, -5002, -6000, -1003};
        for (int i = 0; i < beats.length; i++) {
            String text = beats[i];
            for (int c = 0; c < 8; c++) {
                int who = c;
                empties("beat " + text, bytes(text), x -> x.beat(who, text.length()), faults[i]);
            }
        }
        String[] pleas = {"q", "a+", "a+123", "a=1234", Due.times(21, "a+1", ";"), "b&b", "h+1", "a&h", "a&c;b=1;c+9;", "a/b;b/h"};
        faults = new int[] {-1000, -1002, -2004, -2005, -4080, -6002, -7000, -7002, -1012, -7006};
        for (int i = 0; i < pleas.length; i++) {
            String text = pleas[i];
            empties("pleas " + text, bytes(text), x -> x.pleas(text.length()), faults[i]);
        }
    }

    private static void otherAnswersEmptyTheTape() {
        due.promise("-2, -3 and what is answered from the tape change nothing else");
        empties("alibis, -2", new int[] {0, 0, 7, 9}, x -> x.alibis(1, 0, 0), -2);
        empties("alibis", new int[] {0, 0, 1, 9}, x -> x.alibis(1, 0, 0), 1);
        empties("bench, -3", new int[] {0, 0}, x -> x.bench(2, 1, 0), -3);
        empties("bench, -2", new int[] {0, 1, 1, 0}, x -> x.bench(2, 2, 0), -2);
        empties("bench", new int[] {1, 0}, x -> x.bench(2, 1, 0), 1);
        empties("likely", new int[] {1, 2}, x -> x.likely(1, 1), 2);
        empties("share", new int[] {1, 2}, x -> x.share(1, 1), 1);
        empties("odds, -2", new int[] {11}, x -> x.odds(1, 0), -2);
        empties("odds", new int[] {5}, x -> x.odds(1, 1), 2);
        empties("check", new int[] {100}, x -> x.check(1), 0);
        empties("check of none", new int[] {100}, x -> x.check(0), -1);
    }

    private static void emptyObject() {
        due.promise("a new object: nothing is told");
        IdleCrimes x = new IdleCrimes();
        due.is("alone", x.alone(0, 1), -1);
        due.is("together", x.together(0, 1, 1), -1);
        due.is("tried", x.tried(1, 10), -1);
        due.is("tried 1", x.tried(1, 1), 0);
        due.is("round", x.round(0, 1, 0), -1);
        due.is("way", x.way(0, 0, 100), -1);
        due.is("ways", x.ways(0, 0), -1);
        due.is("nearest", x.nearest(0, 0), -1);
        due.is("watches", x.watches(15), -1);
        due.is("hours", x.hours(240), 0);
        due.is("X is as it was", x.count(8), 1);
        due.is("THE HOUR is not", x.count(0), 240);
    }
}
