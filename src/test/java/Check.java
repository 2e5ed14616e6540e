/** What the tests share: texts typed into an object, answers compared, an end that tells of failures. */
final class Check {
    private static int wrong = 0;
    private static int compared = 0;
    private static String about = "";

    private Check() {
    }

    /** Stands ahead of all that is told to be wrong from now on. */
    static void about(String words) {
        about = words;
    }

    static void due(String what, long got, long want) {
        compared++;
        if (got != want) {
            wrong++;
            if (wrong <= 40) {
                System.out.println(about + what + " answered " + got + ", due is " + want);
            }
        }
    }

    static void typeAll(KeptInside k, String text) {
        for (int i = 0; i < text.length(); i++) {
            k.type(text.charAt(i));
        }
    }

    /** A new object whose METHODS are those of the text. */
    static KeptInside read(String text, int methods) {
        KeptInside k = new KeptInside();
        typeAll(k, text);
        due("reads() of " + text, k.reads(), methods);
        return k;
    }

    /** A new object that has read a text which is known to be well. */
    static KeptInside readAny(String text) {
        KeptInside k = new KeptInside();
        typeAll(k, text);
        k.reads();
        return k;
    }

    /** A text read by an object that has METHODS already: its FAULT, and that all stays. */
    static void fault(String text, int place) {
        KeptInside k = read("{a=new;}", 1);
        k.clear();
        typeAll(k, text);
        due("reads() of " + text, k.reads(), -10 - place);
        told("behind " + text, k, 0, 0, 0, text.length(), 1, 1, 1);
    }

    /** Each answer of told(0) to told(6). */
    static void told(String where, KeptInside k, int... want) {
        for (int what = 0; what < want.length; what++) {
            due(where + ": told(" + what + ")", k.told(what), want[what]);
        }
    }

    /** Each answer of run(0) to run(5), of the METHODS of a text. */
    static void ran(String text, int... want) {
        KeptInside k = readAny(text);
        for (int what = 0; what < want.length; what++) {
            due("run(" + what + ") of " + text, k.run(what), want[what]);
        }
    }

    /** MAY of p, a, b, r of a METHOD. */
    static void mays(String where, KeptInside k, int m, int... want) {
        for (int x = 0; x < want.length; x++) {
            due(where + ": may(" + m + ", " + x + ")", k.may(m, x), want[x]);
        }
    }

    static void end(String test) {
        System.out.println(test + ": " + compared + " answers compared, " + wrong + " wrong");
        if (wrong != 0 || compared == 0) {
            System.exit(1);
        }
    }
}
