/** Promises 7 to 13: what METHODS are and what may be. */
final class BoundsOfQuestions {
    private static final int BAD = KeptInside.BAD, NONE = KeptInside.NONE;
    private static final String UNEVEN = "{a=new;lock a;b=new;}{}{r=p;r=new;}";
    private static final int[] UNEVEN_LINES = {3, 0, 2};
    private static final String FULLEST = "{a=new;b=new;p=new;r=new;a=new;b=new;p=new;r=new;}".repeat(4);

    private BoundsOfQuestions() {
    }

    static void all() {
        promise7LinesAndSites();
        promise7Kept();
        promise7IdleLines();
        promise7MethodsCalled();
        promise7Bad();
        promise8SortAndX();
        promise8Y();
        promise8MethodCalled();
        promise8Site();
        promise8NameOf4And5();
        promise8Bad();
        promise9MethodAndLine();
        promise9Fate();
        promise9MayF();
        promise9Bad();
        promise10May();
        promise10Bad();
        promise11Open();
        promise12Reached();
        promise12Bad();
        promise13Fates();
        promise13Bad();
    }

    private static boolean isIn(int n, int bound) {
        return n >= 0 && n < bound;
    }

    private static void of(String text, int what, int... want) {
        KeptInside k = Check.readAny(text);
        for (int m = 0; m < want.length; m++) {
            Check.due("of(" + m + ", " + what + ") of " + text, k.of(m, what), want[m]);
        }
        Check.due("of(" + want.length + ", " + what + ")", k.of(want.length, what), BAD);
    }

    private static void promise7LinesAndSites() {
        Sentences.test("Promise 7", "Of a METHOD: LINES (what 0), SITES (1),");
        of(UNEVEN, 0, 3, 0, 2);
        of(UNEVEN, 1, 2, 0, 1);
        of(FULLEST, 0, 8, 8, 8, 8);
        of(FULLEST, 1, 8, 8, 8, 8);
        of("{}{lock a;}", 0, 0, 1);
        of("{}{lock a;}", 1, 0, 0);
        of("{a=new;}{b=a;a=new;b=a;}{a=new;b=new;}{}", 1, 1, 1, 2, 0);
        KeptInside k = Check.read("{a=new;a=new;}", 1);
        k.drops(0, 0);
        Check.due("LINES behind drops()", k.of(0, 0), 1);
        Check.due("SITES behind drops()", k.of(0, 1), 1);
    }

    private static void promise7Kept() {
        Sentences.test("Promise 7", "SITES of FATE KEPT (2),");
        of("{a=new;r=new;b=new;G=b;}{a=new;b=new;}{p=new;}{}", 2, 1, 2, 0, 0);
        of("{" + "a=new;".repeat(8) + "}", 2, 8);
        of("{" + "r=new;".repeat(8) + "}", 2, 0);
        of("{" + "a=new;".repeat(7) + "G=a;}", 2, 0);
        of(FULLEST, 2, 4, 4, 4, 4);
    }

    private static void promise7IdleLines() {
        Sentences.test("Promise 7", "LINES that are IDLE (3, bits),");
        of("{lock a;a=new;lock a;lock p;lock a;b=new;G=b;lock a;}{lock a;}{a=new;lock a;}", 3, 0b10010101, 0, 0b10);
        of("{" + "lock a;".repeat(7) + "a=new;}{}", 3, 0b01111111, 0);
        of("{" + "lock a;".repeat(7) + "r=new;}{}", 3, 0, 0);
        of("{a=new;b=1(a);}{lock p;}", 3, 0, 1);
    }

    private static void promise7MethodsCalled() {
        Sentences.test("Promise 7", "METHODS that it calls (4, bits).");
        of("{a=1(a);a=2(a);a=3(a);}{a=2(a);a=3(a);}{a=3(a);}{}", 4, 0b1110, 0b1100, 0b1000, 0);
        of("{a=3(a);a=3(a);}{}{}{}", 4, 0b1000, 0, 0, 0);
        of("{a=1(a);}{a=2(a);}{}", 4, 0b10, 0b100, 0);
        of("{a=b;b=a;a.f=b;lock a;}{}", 4, 0, 0);
        KeptInside k = Check.read("{a=1(a);a=2(a);}{}{}", 3);
        k.drops(0, 0);
        Check.due("behind drops()", k.of(0, 4), 0b100);
    }

    private static void promise7Bad() {
        Sentences.test("Promise 7", "BAD.");
        Numbers.tryAll("of", "", 2, (k, n) -> k.of(n[0], n[1]), n -> false);
        Numbers.tryAll("of", UNEVEN, 2, (k, n) -> k.of(n[0], n[1]), n -> isIn(n[0], 3) && isIn(n[1], 5));
        Numbers.tryAll("of", FULLEST, 2, (k, n) -> k.of(n[0], n[1]), n -> isIn(n[0], 4) && isIn(n[1], 5));
    }

    /** LINES of all SORTS in METHOD 0, and others behind them. */
    private static void lines(int what, int... want) {
        KeptInside k = Check.read("{a=new;b=p;r.f=a;p=b.f;G=r;a=G;lock b;r=2(p);}{b=a;a=new;}{b=new;}", 3);
        for (int i = 0; i < 8; i++) {
            Check.due("line(0, " + i + ", " + what + ")", k.line(0, i, what), want[i]);
        }
        Check.due("line(1, 0, " + what + ")", k.line(1, 0, what), want[8]);
        Check.due("line(1, 1, " + what + ")", k.line(1, 1, what), want[9]);
        Check.due("line(2, 0, " + what + ")", k.line(2, 0, what), want[10]);
    }

    private static void promise8SortAndX() {
        Sentences.test("Promise 8", "Of a LINE: SORT (what 0), x (1),");
        lines(0, 0, 1, 2, 3, 4, 5, 6, 7, 1, 0, 0);
        lines(1, 1, 2, 3, 0, 3, 1, 2, 3, 2, 1, 2);
    }

    private static void promise8Y() {
        Sentences.test("Promise 8", "y (2; NONE: SORTS 0, 4, 5, 6),");
        lines(2, NONE, 0, 1, 2, NONE, NONE, NONE, 0, 1, NONE, NONE);
    }

    private static void promise8MethodCalled() {
        Sentences.test("Promise 8", "the METHOD called (3; NONE),");
        lines(3, NONE, NONE, NONE, NONE, NONE, NONE, NONE, 2, NONE, NONE, NONE);
        KeptInside k = Check.read("{a=1(a);a=2(a);a=3(a);}{a=3(a);}{}{}", 4);
        Check.due("line(0, 0, 3)", k.line(0, 0, 3), 1);
        Check.due("line(0, 1, 3)", k.line(0, 1, 3), 2);
        Check.due("line(0, 2, 3)", k.line(0, 2, 3), 3);
        Check.due("line(1, 0, 3)", k.line(1, 0, 3), 3);
    }

    private static void promise8Site() {
        Sentences.test("Promise 8", "its SITE (4; NONE).");
        lines(4, 0, NONE, NONE, NONE, NONE, NONE, NONE, NONE, NONE, 1, 2);
        KeptInside k = Check.read(FULLEST, 4);
        for (int s = 0; s < 32; s++) {
            Check.due("SITE of the LINE", k.line(s / 8, s % 8, 4), s);
        }
        KeptInside gone = Check.read("{a=new;b=a;}{b=new;}", 2);
        gone.drops(0, 0);
        Check.due("behind drops()", gone.line(1, 0, 4), 0);
        Check.due("behind drops()", gone.line(0, 0, 4), NONE);
        gone.back();
        Check.due("behind back()", gone.line(1, 0, 4), 1);
    }

    private static void promise8NameOf4And5() {
        Sentences.test("Promise 8", "Of 4, 5 x is the NAME.");
        for (int x = 0; x < 4; x++) {
            char name = "pabr".charAt(x);
            KeptInside k = Check.read("{G=" + name + ";" + name + "=G;}", 1);
            Check.due("SORT", k.line(0, 0, 0), 4);
            Check.due("x of G = " + name, k.line(0, 0, 1), x);
            Check.due("y of it", k.line(0, 0, 2), NONE);
            Check.due("SORT", k.line(0, 1, 0), 5);
            Check.due("x of " + name + " = G", k.line(0, 1, 1), x);
            Check.due("y of it", k.line(0, 1, 2), NONE);
        }
    }

    private static void promise8Bad() {
        Sentences.test("Promise 8", "BAD.");
        Numbers.tryAll("line", "", 3, (k, n) -> k.line(n[0], n[1], n[2]), n -> false);
        Numbers.tryAll("line", UNEVEN, 3, (k, n) -> k.line(n[0], n[1], n[2]),
            n -> BoundsOfChanges.isLine(UNEVEN_LINES, n[0], n[1]) && isIn(n[2], 5));
        Numbers.tryAll("line", FULLEST, 3, (k, n) -> k.line(n[0], n[1], n[2]),
            n -> isIn(n[0], 4) && isIn(n[1], 8) && isIn(n[2], 5));
    }

    private static void promise9MethodAndLine() {
        Sentences.test("Promise 9", "Of a SITE: its METHOD (what 0), LINE (1),");
        KeptInside k = Check.read(FULLEST, 4);
        for (int s = 0; s < 32; s++) {
            Check.due("METHOD of SITE " + s, k.site(s, 0), s / 8);
            Check.due("LINE of SITE " + s, k.site(s, 1), s % 8);
        }
        KeptInside few = Check.read("{}{lock a;a=b;a=new;}{a=new;}", 3);
        Check.due("METHOD of SITE 0", few.site(0, 0), 1);
        Check.due("LINE of SITE 0", few.site(0, 1), 2);
        Check.due("METHOD of SITE 1", few.site(1, 0), 2);
        Check.due("LINE of SITE 1", few.site(1, 1), 0);
        few.drops(1, 0);
        Check.due("LINE of SITE 0 behind drops()", few.site(0, 1), 1);
    }

    private static void promise9Fate() {
        Sentences.test("Promise 9", "FATE (2),");
        KeptInside k = Check.read("{a=new;r=new;b=new;G=b;}{p=new;a=new;}", 2);
        int[] want = {0, 1, 2, 1, 0};
        for (int s = 0; s < want.length; s++) {
            Check.due("FATE of SITE " + s, k.site(s, 2), want[s]);
        }
        KeptInside full = Check.read(FULLEST, 4);
        for (int s = 0; s < 32; s++) {
            Check.due("FATE of SITE " + s, full.site(s, 2), s % 4 / 2);
        }
    }

    private static void promise9MayF() {
        Sentences.test("Promise 9", "MAY f (3, bits).");
        KeptInside k = Check.read("{a=new;b=new;b=new;a.f=b;a.f=a;}{a=new;b=new;a.f=b;}", 2);
        int[] want = {0b111, 0, 0, 0b10000, 0};
        for (int s = 0; s < want.length; s++) {
            Check.due("f of SITE " + s, k.site(s, 3), want[s]);
        }
        // the highest SITE that an f can hold, as 32 SITES leave no LINE for x.f = y
        KeptInside most = Check.read(("{" + "a=new;".repeat(8) + "}").repeat(3) + "{" + "a=new;".repeat(7) + "a.f=a;}", 4);
        for (int s = 0; s < 31; s++) {
            Check.due("f of SITE " + s, most.site(s, 3), s < 24 ? 0 : 0x7f << 24);
        }
    }

    private static void promise9Bad() {
        Sentences.test("Promise 9", "BAD.");
        Numbers.tryAll("site", "", 2, (k, n) -> k.site(n[0], n[1]), n -> false);
        Numbers.tryAll("site", "{lock a;}", 2, (k, n) -> k.site(n[0], n[1]), n -> false);
        Numbers.tryAll("site", UNEVEN, 2, (k, n) -> k.site(n[0], n[1]), n -> isIn(n[0], 3) && isIn(n[1], 4));
        Numbers.tryAll("site", FULLEST, 2, (k, n) -> k.site(n[0], n[1]), n -> isIn(n[0], 32) && isIn(n[1], 4));
    }

    private static void promise10May() {
        Sentences.test("Promise 10", "MAY of a NAME (0 .. 3) of a METHOD, as bits.");
        KeptInside k = Check.read(FULLEST, 4);
        for (int m = 0; m < 4; m++) {
            Check.mays("all 32 SITES", k, m, 0x44 << 8 * m, 0x11 << 8 * m, 0x22 << 8 * m, 0x88 << 8 * m);
        }
        Check.due("SITE 31 is the highest bit", k.may(3, 3) < 0 ? 1 : 0, 1);
        KeptInside last = Check.read(("{" + "a=new;".repeat(8) + "}").repeat(4), 4);
        Check.mays("eight at the end", last, 3, 0, 0xff << 24, 0, 0);
        Check.mays("none", Check.read("{}", 1), 0, 0, 0, 0, 0);
    }

    private static void promise10Bad() {
        Sentences.test("Promise 10", "BAD.");
        Numbers.tryAll("may", "", 2, (k, n) -> k.may(n[0], n[1]), n -> false);
        Numbers.tryAll("may", UNEVEN, 2, (k, n) -> k.may(n[0], n[1]), n -> isIn(n[0], 3) && isIn(n[1], 4));
        Numbers.tryAll("may", FULLEST, 2, (k, n) -> k.may(n[0], n[1]), n -> isIn(n[0], 4) && isIn(n[1], 4));
    }

    private static void promise11Open() {
        Sentences.test("Promise 11", "MAY G, as bits.");
        Check.due("no METHODS", new KeptInside().open(), 0);
        Check.due("none put", Check.read("{a=new;}", 1).open(), 0);
        Check.due("one put", Check.read("{a=new;b=new;G=b;}", 1).open(), 2);
        Check.due("what f holds is not put itself", Check.read("{a=new;b=new;a.f=b;G=a;}", 1).open(), 1);
        Check.due("by a METHOD that is not called", Check.read("{}{}{}{a=new;G=a;}", 4).open(), 1);
        KeptInside k = Check.read(("{" + "a=new;".repeat(8) + "}").repeat(3) + "{" + "a=new;".repeat(7) + "G=a;}", 4);
        Check.due("SITES 24 to 30", k.open(), 0x7f << 24);
        Check.due("drops()", k.drops(3, 7), 7);
        Check.due("none put any more", k.open(), 0);
        k.back();
        Check.due("put again", k.open(), 0x7f << 24);
    }

    private static void promise12Reached() {
        Sentences.test("Promise 12", "What is REACHED from MAY of a NAME of a METHOD, as bits.");
        KeptInside full = Check.read(FULLEST, 4);
        for (int m = 0; m < 4; m++) {
            Check.due("p of " + m, full.reached(m, 0), 0x44 << 8 * m);
            Check.due("a of " + m, full.reached(m, 1), 0x11 << 8 * m);
            Check.due("b of " + m, full.reached(m, 2), 0x22 << 8 * m);
            Check.due("r of " + m, full.reached(m, 3), 0x88 << 8 * m);
        }
        KeptInside k = Check.read("{a=new;b=new;p=new;a.f=b;b.f=p;}{b=new;}", 2);
        Check.due("p", k.reached(0, 0), 0b0100);
        Check.due("a", k.reached(0, 1), 0b0111);
        Check.due("b", k.reached(0, 2), 0b0110);
        Check.due("r, none", k.reached(0, 3), 0);
        Check.due("b of 1", k.reached(1, 2), 0b1000);
        k.drops(0, 4);
        Check.due("a behind drops()", k.reached(0, 1), 0b0011);
    }

    private static void promise12Bad() {
        Sentences.test("Promise 12", "BAD.");
        Numbers.tryAll("reached", "", 2, (k, n) -> k.reached(n[0], n[1]), n -> false);
        Numbers.tryAll("reached", UNEVEN, 2, (k, n) -> k.reached(n[0], n[1]), n -> isIn(n[0], 3) && isIn(n[1], 4));
        Numbers.tryAll("reached", FULLEST, 2, (k, n) -> k.reached(n[0], n[1]), n -> isIn(n[0], 4) && isIn(n[1], 4));
    }

    private static void promise13Fates() {
        Sentences.test("Promise 13", "How many SITES have a FATE.");
        fates("", 0, 0, 0);
        fates("{lock a;}", 0, 0, 0);
        fates("{a=new;}", 1, 0, 0);
        fates("{r=new;}", 0, 1, 0);
        fates("{a=new;G=a;}", 0, 0, 1);
        fates("{a=new;b=new;r=new;p=new;G=p;}{r=new;a=new;G=a;}", 2, 2, 2);
        fates(FULLEST, 16, 16, 0);
        fates(("{" + "a=new;".repeat(8) + "}").repeat(4), 32, 0, 0);
        fates(("{" + "r=new;".repeat(8) + "}").repeat(4), 0, 32, 0);
        fates(("{" + "a=new;".repeat(7) + "G=a;}").repeat(4), 0, 0, 28);
    }

    private static void fates(String text, int... want) {
        KeptInside k = Check.readAny(text);
        for (int fate = 0; fate < 3; fate++) {
            Check.due("fates(" + fate + ") of " + text, k.fates(fate), want[fate]);
        }
    }

    private static void promise13Bad() {
        Sentences.test("Promise 13", "BAD.");
        for (String text : new String[] {"", UNEVEN, FULLEST}) {
            Numbers.tryAll("fates", text, 1, (k, n) -> k.fates(n[0]), n -> isIn(n[0], 3));
        }
    }
}
