import java.util.Random;

/** Promises 16 to 23 in every town of five PLACES, whatever is NEXT to what: compared with the model's trying everything out. */
public final class EveryTownTest {
    private static final int PLACES = 5;
    private static final int LANES = PLACES * (PLACES - 1) / 2;

    private final Due due;
    private final IdleCrimes x = new IdleCrimes();
    private final Model model = new Model();
    private final Random random;

    private EveryTownTest(int lanes, int[] names, Due due) {
        this.due = due;
        random = new Random(lanes);
        due.promise("town " + lanes);
        for (int name : names) {
            int temptation = random.nextInt(4);
            int gravity = random.nextInt(4);
            x.place(name, temptation, gravity);
            model.place(name, temptation, gravity);
        }
        build(lanes, names);
        for (int c = 7; c > 4; c--) {
            int p = names[random.nextInt(PLACES)];
            x.constable(c, p);
            model.constable(c, p);
        }
    }

    public static void main(String[] args) {
        Due due = new Due();
        for (int lanes = 0; lanes < 1 << LANES; lanes++) {
            int[][] names = {{0, 1, 2, 3, 4}, {2, 3, 7, 14, 15}};
            new EveryTownTest(lanes, names[lanes % 2], due).ask(names[lanes % 2]);
        }
        due.tell();
    }

    private void build(int lanes, int[] names) {
        StringBuilder text = new StringBuilder();
        int lane = 0;
        for (int i = 0; i < PLACES; i++) {
            for (int j = i + 1; j < PLACES; j++) {
                if ((lanes >> lane & 1) == 1) {
                    text.append(text.length() == 0 ? "" : ";").append((char) ('a' + names[i])).append('&').append((char) ('a' + names[j]));
                }
                lane++;
            }
        }
        if (text.length() > 0) {
            Due.text(x, text.toString());
            x.pleas(text.length());
            for (String one : text.toString().split(";")) {
                model.next[one.charAt(0) - 'a'][one.charAt(2) - 'a'] = true;
                model.next[one.charAt(2) - 'a'][one.charAt(0) - 'a'] = true;
            }
        }
    }

    private void ask(int[] names) {
        due.is("worst()", x.worst(), model.worst());
        due.is("watches(100)", x.watches(100), model.watches(100));
        for (int what = 0; what < 4; what++) {
            due.is("posts(" + what + ")", x.posts(what), what > 1 ? -1 : model.posts(what));
            due.is("lanes(" + what + ")", x.lanes(what), model.lanes(what));
        }
        for (int p : names) {
            due.is("watches(" + p + ")", x.watches(p), model.watches(p));
            due.is("nearest(" + p + ", 0)", x.nearest(p, 0), model.nearest(p, 0));
            due.is("nearest(" + p + ", 1)", x.nearest(p, 1), model.nearest(p, 1));
            for (int k = 1; k <= 8; k++) {
                due.is("round(" + p + ", " + k + ", 1)", x.round(p, k, 1), model.round(p, k, 1));
            }
            for (int q : names) {
                ways(p, q);
            }
        }
    }

    private void ways(int p, int q) {
        due.is("ways(" + p + ", " + q + ")", x.ways(p, q), model.ways(p, q));
        due.is("way(" + p + ", " + q + ", 100)", x.way(p, q, 100), model.way(p, q, 100));
        for (int what = 0; what < PLACES; what++) {
            due.is("way(" + p + ", " + q + ", " + what + ")", x.way(p, q, what), model.way(p, q, what));
        }
    }
}
