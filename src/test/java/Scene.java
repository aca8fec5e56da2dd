/** An object in the middle of things: every kind of thing is told, HOURS have gone by, and one state is KEPT. */
final class Scene {
    private Scene() {
    }

    static IdleCrimes make() {
        IdleCrimes x = new IdleCrimes();
        for (int p = 0; p < 7; p++) {
            x.place(p, 11 * p + 3, 100 * p + 50);
        }
        x.place(9, 99, 999);
        Due.pleas(x, "a&b;b&c;c&d;d&a;d&e;e&f;f&g;e&g");
        x.constable(0, 0);
        x.constable(1, 3);
        x.constable(3, 9);
        x.constable(7, 5);
        Due.beat(x, 0, "2(bcda)3.");
        Due.beat(x, 1, "efgf2ed");
        Due.beat(x, 7, "g9.f");
        Due.law(x, "s(h=3&p>4);w2+c*3(l=0&n>0);w1(1=1);r[t+g]/200(c=0&!d>90);r3(p=9)");
        x.hours(31);
        x.keep();
        x.hours(17);
        return x;
    }

    /** What check(16) finds right. */
    static int[] temptations(IdleCrimes x) {
        int[] bytes = new int[16];
        for (int p = 0; p < 16; p++) {
            bytes[p] = x.placeIs(p, 0) < 0 ? 255 : x.placeIs(p, 0);
        }
        return bytes;
    }
}
