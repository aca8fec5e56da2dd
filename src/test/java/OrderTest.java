import java.util.function.ToIntFunction;

/** Which answer is told first where several fit one call; whose all memory is; and 512 calls of each kind. */
public final class OrderTest {
    private static final Due due = new Due();
    private static final int CALLS = 512;

    public static void main(String[] args) {
        noneAheadOfAFault();
        noneAheadOfOthers();
        minusTwoAheadOfMinusFour();
        minusThreeAheadOfMinusTwo();
        minusTwoInPlaceOfNone();
        memoryIsTheBoroughsOwn();
        askedAgainAndAgain();
        toldAgainAndAgain();
        due.tell();
    }

    /** A call with these bytes on the tape: what it answers, and how many bytes are left. */
    private static void asked(String call, int answer, int left, ToIntFunction<IdleCrimes> ask, int... bytes) {
        IdleCrimes x = Scene.make();
        Due.bytes(x, bytes);
        due.is(call, ask.applyAsInt(x), answer);
        due.is("bytes left behind " + call, x.count(7), left);
    }

    private static void noneAheadOfAFault() {
        due.promise("NONE is told first, then a FAULT");
        int[] faulty = "???".chars().toArray();
        int[] many = new int[260];
        asked("law", -1000, 0, x -> x.law(3), faulty);
        asked("law(0)", -1, 20, x -> x.law(0), faulty);
        asked("law(21)", -1, 20, x -> x.law(21), faulty);
        asked("law(241)", -1, 260, x -> x.law(241), many);
        asked("beat", -1000, 0, x -> x.beat(7, 3), faulty);
        asked("beat of nobody", -1, 20, x -> x.beat(8, 3), faulty);
        asked("beat(0, 0)", -1, 20, x -> x.beat(0, 0), faulty);
        asked("beat(0, 21)", -1, 20, x -> x.beat(0, 21), faulty);
        asked("beat(0, 61)", -1, 260, x -> x.beat(0, 61), many);
        asked("pleas", -1000, 0, x -> x.pleas(3), faulty);
        asked("pleas(0)", -1, 20, x -> x.pleas(0), faulty);
        asked("pleas(21)", -1, 20, x -> x.pleas(21), faulty);
        asked("pleas(121)", -1, 260, x -> x.pleas(121), many);
    }

    private static void noneAheadOfOthers() {
        due.promise("NONE is told first, then .. -2");
        // h (7) is not told, j (9) is, without a lane
        int[] untold = {7, 0, 7, 0};
        asked("alibis", -2, 0, x -> x.alibis(1, 0, 0), untold);
        asked("alibis, a place that is not told", -1, 20, x -> x.alibis(1, 7, 0), untold);
        asked("alibis, no such hour", -1, 20, x -> x.alibis(1, 0, 256), untold);
        asked("alibis, no such n", -1, 60, x -> x.alibis(11, 0, 0), Due.bytesOf(60, 7));
        asked("alibis, not so many", -1, 20, x -> x.alibis(6, 0, 0), untold);
        asked("odds", -2, 0, x -> x.odds(1, 0), 11);
        asked("odds, no such what", -1, 20, x -> x.odds(1, 6), 11);
        asked("odds, no such n", -1, 20, x -> x.odds(10, 0), 11);
        asked("way", -2, 0, x -> x.way(0, 9, 100));
        asked("way, no such what", -1, 0, x -> x.way(0, 9, 16));
        asked("way, to one that is not told", -1, 0, x -> x.way(0, 7, 100));
        asked("way, -4", -4, 0, x -> x.way(0, 1, 2));
        asked("way, -4 but of one that is not told", -1, 0, x -> x.way(7, 1, 2));
        IdleCrimes lone = new IdleCrimes();
        lone.place(0, 1, 1);
        due.is("nearest", lone.nearest(0, 0), -2);
        due.is("nearest, no such what", lone.nearest(0, 2), -1);
        due.is("nearest, not told", lone.nearest(1, 0), -1);
        due.is("lanes", lone.lanes(2), -2);
        due.is("lanes, no such what", lone.lanes(4), -1);
        asked("together", -2, 0, x -> x.together(0, 3, 9));
        asked("together, no such n", -1, 0, x -> x.together(0, 3, 241));
        IdleCrimes both = new IdleCrimes();
        both.place(0, 1, 1);
        both.constable(0, 0);
        both.constable(1, 0);
        due.is("together now", both.together(0, 1, 1), 0);
        due.is("together now, no such n", both.together(0, 1, 0), -1);
        due.is("together with himself", both.together(0, 0, 1), -1);
    }

    private static void minusTwoAheadOfMinusFour() {
        due.promise("then -2, then -3 and so on");
        for (int what = 1; what < 16; what++) {
            int place = what;
            asked("way without a way, place " + what, -2, 0, x -> x.way(0, 9, place));
            asked("way of no steps, place " + what, -4, 0, x -> x.way(9, 9, place));
        }
        asked("way without a way, place 0", -2, 0, x -> x.way(0, 9, 0));
        asked("way of no steps, place 0", 9, 0, x -> x.way(9, 9, 0));
    }

    private static void minusThreeAheadOfMinusTwo() {
        due.promise("in bench() -3 ahead of -2");
        asked("none beats all", -2, 0, x -> x.bench(2, 2, 0), 0, 1, 1, 0);
        asked("nor is it a ranking", -3, 0, x -> x.bench(2, 3, 0), 0, 1, 1, 0, 1, 1);
        asked("the first one is none", -3, 0, x -> x.bench(2, 3, 0), 2, 1, 1, 0, 0, 1);
        asked("no such what", -1, 20, x -> x.bench(2, 3, 3), 2, 1, 1, 0, 0, 1);
        asked("no such judges", -1, 20, x -> x.bench(2, 10, 0), 2, 1, 1, 0, 0, 1);
        asked("not so many", -1, 20, x -> x.bench(3, 7, 0), 2, 1, 1, 0, 0, 1);
    }

    private static void minusTwoInPlaceOfNone() {
        due.promise("NONE (or what is told in its place)");
        asked("check", 0, 0, x -> x.check(3), 77, 77, 77);
        asked("check(17)", -2, 20, x -> x.check(17), 77, 77, 77);
        asked("check(-1)", -2, 20, x -> x.check(-1), 77, 77, 77);
        asked("check of an empty tape", -2, 0, x -> x.check(1));
        asked("check(0)", -1, 0, x -> x.check(0), 77, 77, 77);
    }

    private static void memoryIsTheBoroughsOwn() {
        due.promise("All memory is the borough's own");
        String alone = Whole.of(Scene.make());
        String empty = Whole.of(new IdleCrimes());
        IdleCrimes x = Scene.make();
        IdleCrimes y = new IdleCrimes();
        IdleCrimes z = Scene.make();
        z.place(0, 1, 1);
        z.place(14, 2, 2);
        z.constable(2, 14);
        Due.law(z, "r10(1=1)");
        Due.beat(z, 0, "9.");
        Due.pleas(z, "a/b;a&o");
        z.seed(9);
        z.feed(1, 2, 3, 4, 5);
        z.hours(100);
        z.keep();
        due.is("another one stays as it was", Whole.of(x), alone);
        due.is("an empty one is empty", Whole.of(y), empty);
        due.is("a new one, too", Whole.of(new IdleCrimes()), empty);
        due.is("nor has it KEPT", y.undo(), false);
        x.undo();
        due.is("what it has KEPT is its own", x.count(0), 31);
    }

    /** Each question 512 times: the same answer, and all is as it was. */
    private static void same(String call, ToIntFunction<IdleCrimes> ask) {
        IdleCrimes x = Scene.make();
        int first = ask.applyAsInt(Scene.make());
        int same = 0;
        for (int i = 0; i < CALLS; i++) {
            same += ask.applyAsInt(x) == first ? 1 : 0;
        }
        due.is(call, same, CALLS);
        due.is("all is as it was behind " + call, Whole.of(x), Whole.of(Scene.make()));
    }

    private static void askedAgainAndAgain() {
        due.promise("at most 512 calls");
        same("tried", x -> x.tried(9, 2));
        same("placeIs", x -> x.placeIs(1, 3));
        same("constableIs", x -> x.constableIs(1, 1));
        same("alone", x -> x.alone(1, 9));
        same("together", x -> x.together(0, 1, 9));
        same("seen", x -> x.seen(9));
        same("quiet", x -> x.quiet(9));
        same("ways", x -> x.ways(0, 6));
        same("worst", x -> x.worst());
        same("posts", x -> x.posts(1));
        same("round", x -> x.round(0, 6, 1));
        same("lanes", x -> x.lanes(1));
        same("watches", x -> x.watches(6));
        same("way", x -> x.way(0, 6, 2));
        same("nearest", x -> x.nearest(6, 0));
        same("count", x -> x.count(8));
        same("a law with a FAULT", x -> Due.law(x, "s(p=0"));
        same("a beat with a FAULT", x -> Due.beat(x, 0, "9(9a)"));
        same("pleas with a FAULT", x -> Due.pleas(x, "a+1;a&a"));
        same("alibis", x -> tape(x, 0, 0, 2, 9) + x.alibis(1, 1, 4));
        same("bench", x -> tape(x, 0, 1, 1, 0) + x.bench(2, 2, 2));
        same("likely", x -> tape(x, 1, 2, 2, 1) + x.likely(2, 0));
        same("share", x -> tape(x, 200, 129) + x.share(1, 7));
        same("odds", x -> tape(x, 5, 5) + x.odds(2, 4));
        same("check", x -> tape(x, 3) + x.check(1));
    }

    private static int tape(IdleCrimes x, int... bytes) {
        Due.bytes(x, bytes);
        return 0;
    }

    private static void toldAgainAndAgain() {
        due.promise("at most 512 calls");
        IdleCrimes x = Scene.make();
        for (int i = 0; i < CALLS; i++) {
            x.place(i % 16, i % 100, i);
            x.constable(i % 8, i % 16);
        }
        due.is("the last TEMPTATION", x.placeIs(15, 0), 11);
        due.is("the last PLACE", x.constableIs(7, 0), 15);
        for (int i = 0; i < CALLS; i++) {
            x.hours(240);
            x.keep();
            x.undo();
        }
        due.is("THE HOUR", x.count(0), 9999);
        int fed = 0;
        for (int i = 0; i < CALLS; i++) {
            fed += x.feed(i, i, i, i, i) > 0 ? 1 : 0;
        }
        due.is("thirteen feeds", fed, 13);
        due.is("bytes", x.count(7), 260);
        int seeds = 0;
        for (int i = 0; i < CALLS; i++) {
            seeds += x.seed(i) ? 1 : 0;
        }
        due.is("seeds", seeds, CALLS);
        due.is("the last SEED", x.count(8), 511);
    }
}
