/** Calls with their numbers just inside, at and just outside of all bounds, and at the ends of int. */
final class Numbers {
    static final int LEAST = Integer.MIN_VALUE, MOST = Integer.MAX_VALUE;

    /** Those in the middle would be well again, if only some of their bits were looked at. */
    static final int[] SOME = {LEAST, LEAST + 1, -256, -33, -32, -8, -4, -1, 0, 1, 2, 3, 4, 5, 6, 7, 8, 9, 32, 256,
        1 << 16, 1 << 29, (1 << 29) + 1, 1 << 30, MOST - 1, MOST};
    static final int[] MANY = {LEAST, LEAST + 1, LEAST + 97, -(1 << 30), -(1 << 29), -65536, -257, -256, -200, -129, -128,
        -127, -65, -64, -33, -32, -31, -16, -9, -8, -7, -5, -4, -3, -2, -1, 0, 1, 2, 3, 4, 5, 6, 7, 8, 9, 10, 15, 16, 17,
        23, 24, 30, 31, 32, 33, 34, 63, 64, 65, 97, 126, 127, 128, 129, 199, 200, 201, 254, 255, 256, 257, 258, 353,
        511, 512, 513, 65535, 65536, 65537, 1 << 28, 1 << 29, (1 << 29) + 1, 1 << 30, (1 << 30) + 1, MOST - 97, MOST - 1, MOST};

    private Numbers() {
    }

    interface Call {
        int on(KeptInside k, int[] n);
    }

    interface Rule {
        boolean holds(int[] n);
    }

    /**
     * Each call on an object of its own: refused as BAD if, and only if, its numbers are not as told,
     * and then nothing but how often has changed.
     */
    static void tryAll(String name, String text, int howMany, Call call, Rule asTold) {
        long refused = digestOfRefused(text);
        int[] values = howMany > 2 ? SOME : MANY;
        int all = 1;
        for (int place = 0; place < howMany; place++) {
            all *= values.length;
        }
        for (int one = 0; one < all; one++) {
            int[] n = new int[howMany];
            int rest = one;
            for (int place = 0; place < howMany; place++) {
                n[place] = values[rest % values.length];
                rest /= values.length;
            }
            tryOne(name + java.util.Arrays.toString(n) + " of " + text, text, call, n, asTold.holds(n), refused);
        }
    }

    private static void tryOne(String name, String text, Call call, int[] n, boolean asTold, long refused) {
        KeptInside k = Check.readAny(text);
        int answer = call.on(k, n);
        if (asTold) {
            Check.due(name + " is not refused", answer == KeptInside.BAD ? 1 : 0, 0);
            Check.due(name + " is not counted", k.told(0) + k.told(1) + k.told(2), 0);
        } else {
            Check.due(name, answer, KeptInside.BAD);
            Check.due(name + " is counted, nothing else changes", k.digest(), refused);
        }
    }

    private static long digestOfRefused(String text) {
        KeptInside k = Check.readAny(text);
        Check.due("told(7)", k.told(7), KeptInside.BAD);
        return k.digest();
    }
}
