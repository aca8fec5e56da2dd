import java.util.Arrays;
import java.util.function.IntUnaryOperator;

/** What the tests share: answers that are due, and texts fed to a tape. */
final class Due {
    private int wrong = 0;
    private int asked = 0;
    private String promise = "";

    void promise(String name) {
        promise = name;
    }

    void is(String call, long got, long want) {
        asked++;
        if (got != want) {
            wrong++;
            System.out.println(promise + ": " + call + " answered " + got + ", due is " + want);
        }
    }

    void is(String call, boolean got, boolean want) {
        is(call, got ? 1 : 0, want ? 1 : 0);
    }

    void is(String call, String got, String want) {
        is(call + " (" + got + " for " + want + ")", got.equals(want), true);
    }

    /** The last values that are taken, and what is beyond them on both sides. */
    void bounds(String call, IntUnaryOperator ask, int least, int atLeast, int most, int atMost, int beyond) {
        is(call + " of " + least, ask.applyAsInt(least), atLeast);
        is(call + " of " + most, ask.applyAsInt(most), atMost);
        for (int other : new int[] {least - 1, most + 1, Integer.MIN_VALUE, Integer.MAX_VALUE}) {
            is(call + " of " + other, ask.applyAsInt(other), beyond);
        }
    }

    /** Ends the test. */
    void tell() {
        System.out.println(asked + " answers, " + wrong + " not as due");
        if (wrong != 0 || asked == 0) {
            System.exit(1);
        }
    }

    /** Feeds the bytes of a text (signs 0 to 255), filled up with zeros to twenties. */
    static void text(IdleCrimes x, String text) {
        int[] bytes = new int[text.length()];
        for (int i = 0; i < bytes.length; i++) {
            bytes[i] = text.charAt(i);
        }
        bytes(x, bytes);
    }

    static void bytes(IdleCrimes x, int... bytes) {
        for (int from = 0; from < bytes.length; from += 20) {
            int[] five = fives(bytes, from);
            x.feed(five[0], five[1], five[2], five[3], five[4]);
        }
    }

    /** So many bytes, all alike. */
    static int[] bytesOf(int many, int value) {
        int[] bytes = new int[many];
        Arrays.fill(bytes, value);
        return bytes;
    }

    static int[] fives(int[] bytes, int from) {
        int[] five = new int[5];
        for (int i = 0; i < 20; i++) {
            int value = from + i < bytes.length ? bytes[from + i] & 255 : 0;
            five[i / 4] |= value << 24 - 8 * (i % 4);
        }
        return five;
    }

    static int law(IdleCrimes x, String text) {
        text(x, text);
        return x.law(text.length());
    }

    static int beat(IdleCrimes x, int c, String text) {
        text(x, text);
        return x.beat(c, text.length());
    }

    static int pleas(IdleCrimes x, String text) {
        text(x, text);
        return x.pleas(text.length());
    }

    /** A fresh object with the tape of a text. */
    static IdleCrimes fed(String text) {
        IdleCrimes x = new IdleCrimes();
        text(x, text);
        return x;
    }

    static int bit(boolean good) {
        return good ? 1 : 0;
    }

    static String times(int n, String text, String between) {
        StringBuilder all = new StringBuilder();
        for (int i = 0; i < n; i++) {
            all.append(i == 0 ? "" : between).append(text);
        }
        return all.toString();
    }
}
