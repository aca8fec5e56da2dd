/** All that can be asked of an object, so that two can be compared; some 380 calls, so once an object. */
final class Whole {
    private static final int HOURS = 30;

    private final StringBuilder all = new StringBuilder();

    private Whole() {
    }

    /** What can be asked without the tape. */
    static String of(IdleCrimes x) {
        Whole whole = new Whole();
        whole.counts(x);
        whole.places(x);
        whole.constables(x);
        whole.streets(x);
        return whole.all.toString();
    }

    /** This too: whether the tape begins with these bytes, and what was KEPT. */
    static String toTheEnd(IdleCrimes x, int... tape) {
        Whole whole = new Whole();
        whole.all.append(of(x));
        whole.say("tape", x.check(tape.length == 0 ? 1 : tape.length));
        whole.say("undo", x.undo() ? 1 : 0);
        whole.counts(x);
        for (int p = 0; p < 16; p++) {
            for (int what = 0; what < 3; what++) {
                whole.say("kept p" + p, x.placeIs(p, what));
            }
        }
        return whole.all.toString();
    }

    private void say(String name, int answer) {
        all.append(name).append(' ').append(answer).append('\n');
    }

    private void counts(IdleCrimes x) {
        for (int what = 0; what < 9; what++) {
            say("count" + what, x.count(what));
        }
    }

    private void places(IdleCrimes x) {
        for (int p = 0; p < 16; p++) {
            for (int what = 0; what < 5; what++) {
                say("p" + p + " " + what, x.placeIs(p, what));
            }
            say("then since p" + p, x.tried(HOURS, 30 + p));
            say("alone p" + p, x.alone(p, HOURS));
        }
        say("seen", x.seen(HOURS));
        say("quiet", x.quiet(HOURS));
        say("crimes", x.tried(HOURS, 0));
        say("deducted", x.tried(HOURS, 2));
    }

    private void constables(IdleCrimes x) {
        for (int c = 0; c < 8; c++) {
            for (int what = 0; what < 3; what++) {
                say("c" + c + " " + what, x.constableIs(c, what));
            }
            say("then at c" + c, x.tried(HOURS, 10 + c));
            say("then wage c" + c, x.tried(HOURS, 20 + c));
            say("meets c" + c, x.together(c, c + 1, HOURS));
        }
        say("pence", x.tried(HOURS, 1));
    }

    private void streets(IdleCrimes x) {
        say("worst", x.worst());
        say("posts", x.posts(1));
        say("many watches", x.watches(100));
        for (int what = 0; what < 4; what++) {
            say("lanes" + what, x.lanes(what));
        }
        for (int p = 0; p < 16; p++) {
            say("ways p" + p, x.ways(0, p));
            say("steps p" + p, x.way(p, 1, 100));
            say("watch p" + p, x.watches(p));
            say("nearest p" + p, x.nearest(p, 0));
            say("round p" + p, x.round(p, 3, 1));
        }
    }
}
