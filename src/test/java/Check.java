/** What the tests share: texts typed into an object, answers compared, an end that tells of failures. */
final class Check {
    private static int wrong = 0;
    private static int compared = 0;

    private Check() {
    }

    static void due(String what, long got, long want) {
        compared++;
        if (got != want) {
            wrong++;
            if (wrong <= 40) {
                System.out.println(what + " answered " + got + ", due is " + want);
            }
        }
    }

    static void typeAll(KeptInside k, String text) {
        for (int i = 0; i < text.length(); i++) {
            k.type(text.charAt(i));
        }
    }

    /** A new object whose METHODS are those of the text. */
    static KeptInside read(String text, int methods) {
        KeptInside k = new KeptInside();
        typeAll(k, text);
        due("reads() of " + text, k.reads(), methods);
        return k;
    }

    /** Each answer of told(0) to told(6). */
    static void told(String where, KeptInside k, int... want) {
        for (int what = 0; what < want.length; what++) {
            due(where + ": told(" + what + ")", k.told(what), want[what]);
        }
    }

    static void end(String test) {
        System.out.println(test + ": " + compared + " answers compared, " + wrong + " wrong");
        if (wrong != 0 || compared == 0) {
            System.exit(1);
        }
    }
}
