/** Promises 14 to 16 and 18: runs, and what there is. */
final class BoundsOfRunQuestions {
    private static final int BAD = KeptInside.BAD, NONE = KeptInside.NONE, NO = KeptInside.NO, FULL = KeptInside.FULL;
    private static final String UNEVEN = "{a=new;lock a;b=new;}{}{r=p;r=new;}";
    private static final String FULLEST = "{a=new;b=new;p=new;r=new;a=new;b=new;p=new;r=new;}".repeat(4);

    private BoundsOfRunQuestions() {
    }

    static void all() {
        promise14Fails();
        promise14Made();
        promise14Locks();
        promise14IdleLocks();
        promise14Calls();
        promise14Leaks();
        promise14Bad();
        promise15Made();
        promise15Leak();
        promise15Locks();
        promise15Bad();
        promise16Held();
        promise16Nothing();
        promise18Refused();
        promise18Rest();
        promise18Bad();
    }

    private static boolean isIn(int n, int bound) {
        return n >= 0 && n < bound;
    }

    private static void run(String text, int what, int want) {
        Check.due("run(" + what + ") of " + text, Check.readAny(text).run(what), want);
    }

    private static String calls(int count, int callee) {
        return ("a=" + callee + "(a);").repeat(count);
    }

    private static void promise14Fails() {
        Sentences.test("Promise 14", "RUN: whether it FAILS (what 0: 1, 0),");
        run("", 0, 0);
        run("{}", 0, 0);
        run("{a=new;lock a;}", 0, 0);
        run("{a=new;lock b;}", 0, 1);
        run("{a=new;b=new;a.f=b;a=a.f;a=a.f;}", 0, 0);
        run("{a=new;b=new;a.f=b;a=a.f;a=a.f;a=a.f;}", 0, 1);
        run("{}{lock a;}", 0, 0);
        run("{a=b;a=b;a=b;a=b;a=b;a=b;a=b;lock a;}", 0, 1);
        KeptInside k = Check.read("{lock a;a=new;}", 1);
        Check.due("run(0)", k.run(0), 1);
        k.swaps(0, 0);
        Check.due("run(0) behind swaps()", k.run(0), 0);
        k.back();
        Check.due("run(0) behind back()", k.run(0), 1);
    }

    private static void promise14Made() {
        Sentences.test("Promise 14", "THINGS made (1),");
        run("", 1, 0);
        run("{}", 1, 0);
        run("{a=new;}", 1, 1);
        run("{lock a;a=new;}", 1, 0);
        run("{a=new;lock b;a=new;}", 1, 1);
        run(FULLEST, 1, 8);
        run("{a=1(a);a=1(a);}{b=new;b=new;a=2(a);}{a=new;}", 1, 6);
        run("{a=1(a);a=1(a);a=1(a);a=2(a);}{" + "a=new;".repeat(8) + "}{" + "a=new;".repeat(7) + "}", 1, 31);
        run("{a=1(a);a=1(a);a=1(a);a=1(a);}{" + "a=new;".repeat(8) + "}", 1, 32);
        run("{a=1(a);a=1(a);a=1(a);a=1(a);a=new;}{" + "a=new;".repeat(8) + "}", 1, 33);
        // 2401 are the most that 200 bytes can make
        for (int news = 0; news <= 7; news++) {
            run("{" + calls(7, 1) + "}{" + calls(7, 2) + "}{" + calls(7, 3) + "}{" + "a=new;".repeat(news) + "}", 1, 343 * news);
        }
    }

    private static void promise14Locks() {
        Sentences.test("Promise 14", "LOCKS taken (2),");
        run("", 2, 0);
        run("{a=new;}", 2, 0);
        run("{lock a;}", 2, 0);
        run("{a=new;lock a;}", 2, 1);
        run("{a=new;" + "lock a;".repeat(7) + "}", 2, 7);
        run("{a=new;lock a;lock b;lock a;}", 2, 1);
        run("{b=new;" + "a=1(b);".repeat(7) + "}{lock p;lock p;}", 2, 14);
        run("{a=new;}{a=new;lock a;}", 2, 0);
    }

    private static void promise14IdleLocks() {
        Sentences.test("Promise 14", "those of LINES that are IDLE (3),");
        run("{a=new;" + "lock a;".repeat(7) + "}", 3, 7);
        run("{r=new;" + "lock r;".repeat(7) + "}", 3, 0);
        run("{a=new;r=new;lock a;lock r;lock a;}", 3, 2);
        run("{a=new;G=a;lock a;}", 3, 0);
        run("{b=new;a=1(b);a=1(b);}{lock p;a=new;lock a;}", 3, 4);
        // one that is IDLE, but is not come to or not taken, is none
        run("{lock a;a=new;}", 3, 0);
        run("{a=new;lock b;lock a;}", 3, 0);
        run("{a=new;}{a=new;lock a;}", 3, 0);
        // the last LINE of a METHOD, and the first one
        run("{a=new;b=a;b=a;b=a;b=a;b=a;b=a;lock b;}", 3, 1);
        run("{a=new;b=1(a);}{lock p;r=new;}", 3, 1);
    }

    private static void promise14Calls() {
        Sentences.test("Promise 14", "CALLS (4; that of METHOD 0, too),");
        run("", 4, 0);
        run("{}", 4, 1);
        run("{}{}{}{}", 4, 1);
        run("{lock a;}", 4, 1);
        run("{a=1(a);}{}", 4, 2);
        run("{a=1(a);}{lock p;}", 4, 2);
        run("{a=1(a);a=1(a);}{lock p;}", 4, 2);
        run("{a=1(a);a=2(a);a=3(a);}{}{}{}", 4, 4);
        run("{a=1(a);}{a=2(a);}{a=3(a);}{}", 4, 4);
        run("{" + calls(8, 3) + "}{}{}{}", 4, 9);
        // the most: eight LINES in each of three METHODS
        run("{" + calls(8, 1) + "}{" + calls(8, 2) + "}{" + calls(8, 3) + "}{}", 4, 1 + 8 + 64 + 512);
    }

    private static void promise14Leaks() {
        Sentences.test("Promise 14", "THINGS that LEAK (5).");
        run("", 5, 0);
        run("{a=new;}", 5, 0);
        run("{r=new;}", 5, 1);
        run(FULLEST, 5, 1);
        run("{a=new;b=new;p=new;r=new;r.f=p;p.f=b;b.f=a;}", 5, 4);
        run("{" + calls(7, 1) + "}{" + calls(7, 2) + "}{" + calls(7, 3) + "}{" + "r=new;".repeat(7) + "}", 5, 343);
        run("{" + calls(8, 1) + "}{" + calls(8, 2) + "}{" + calls(8, 3) + "}{r=new;}", 5, 512);
    }

    private static void promise14Bad() {
        Sentences.test("Promise 14", "BAD.");
        for (String text : new String[] {"", UNEVEN, FULLEST, "{lock a;}"}) {
            Numbers.tryAll("run", text, 1, (k, n) -> k.run(n[0]), n -> isIn(n[0], 6));
        }
    }

    private static void ran(String text, int what, int... want) {
        KeptInside k = Check.readAny(text);
        Check.due("SITES of " + text, k.told(5), want.length);
        for (int s = 0; s < want.length; s++) {
            Check.due("ran(" + s + ", " + what + ") of " + text, k.ran(s, what), want[s]);
        }
    }

    private static void promise15Made() {
        Sentences.test("Promise 15", "RUN: THINGS of a SITE that were made (what 0),");
        ran("{a=new;}{a=new;}", 0, 1, 0);
        ran("{a=1(a);a=2(a);a=1(a);}{a=new;}{a=new;b=3(b);}{b=new;}", 0, 2, 1, 1);
        ran("{a=new;lock b;a=new;}", 0, 1, 0);
        ran("{a=new;b=1(a);b=new;}{a=new;lock b;a=new;}", 0, 1, 0, 1, 0);
        ran("{" + calls(8, 1) + "}{" + calls(8, 2) + "}{" + calls(8, 3) + "}{a=new;b=new;}", 0, 512, 512);
        KeptInside k = Check.read(FULLEST, 4);
        for (int s = 0; s < 32; s++) {
            Check.due("ran(" + s + ", 0)", k.ran(s, 0), s < 8 ? 1 : 0);
        }
    }

    private static void promise15Leak() {
        Sentences.test("Promise 15", "that LEAK (1),");
        ran("{a=new;r=new;}", 1, 0, 1);
        ran("{r=new;r=new;}", 1, 0, 1);
        ran("{a=1(a);a=1(a);}{r=new;a=new;}", 1, 2, 0);
        ran("{a=new;b=1(a);b=1(b);}{a=new;p.f=a;r=p;}", 1, 0, 2);
        // not each THING of a SITE: where p and G are one THING, it is taken out of its f again
        ran("{a=new;G=a;b=1(a);p=new;b=1(p);}{a=new;p.f=a;b=G;b.f=r;}", 1, 1, 0, 1);
        ran("{a=new;G=a;b=1(a);b=1(a);}{a=new;p.f=a;b=G;b.f=r;}", 1, 1, 0);
        // .. and a CALL that FAILS behind one that ended well
        ran("{b=new;a=1(b);a=1(a);}{a=new;p.f=a;}", 1, 0, 1);
        ran("{r=new;lock a;}", 1, 0);
    }

    private static void promise15Locks() {
        Sentences.test("Promise 15", "LOCKS taken of them (2).");
        ran("{a=new;b=new;lock a;lock b;lock a;}", 2, 2, 1);
        ran("{a=new;b=1(a);lock b;lock a;}{lock p;r=new;lock r;lock r;}", 2, 2, 3);
        ran("{a=new;lock a;lock b;lock a;}", 2, 1);
        ran("{a=new;b=a;a=new;lock b;lock b;lock a;}", 2, 2, 1);
        ran("{a=new;}{a=new;lock a;}", 2, 0, 0);
        ran("{a=new;" + "lock a;".repeat(7) + "}", 2, 7);
    }

    private static void promise15Bad() {
        Sentences.test("Promise 15", "BAD.");
        Numbers.tryAll("ran", "", 2, (k, n) -> k.ran(n[0], n[1]), n -> false);
        Numbers.tryAll("ran", "{lock a;}", 2, (k, n) -> k.ran(n[0], n[1]), n -> false);
        Numbers.tryAll("ran", UNEVEN, 2, (k, n) -> k.ran(n[0], n[1]), n -> isIn(n[0], 3) && isIn(n[1], 3));
        Numbers.tryAll("ran", FULLEST, 2, (k, n) -> k.ran(n[0], n[1]), n -> isIn(n[0], 32) && isIn(n[1], 3));
    }

    private static void held(String text, int want) {
        Check.due("held() of " + text, Check.readAny(text).held(), want);
    }

    private static void promise16Held() {
        Sentences.test("Promise 16", "RUN: the SITE of what G holds at the end;");
        held("{a=new;G=a;}", 0);
        held("{a=new;b=new;G=a;G=b;}", 1);
        held("{a=new;b=new;G=b;G=a;}", 0);
        held("{b=new;a=1(b);}{a=new;G=a;}", 1);
        held("{a=new;G=a;lock b;G=b;}", 0);
        held("{" + "a=new;".repeat(7) + "G=a;}", 6);
        held("{a=3(b);}{}{" + "a=new;".repeat(8) + "}{" + "a=new;".repeat(7) + "G=a;}", 14);
        String news = "a=new;".repeat(8);
        held("{a=3(b);" + "a=new;".repeat(7) + "}{" + news + "}{" + news + "}{" + "a=new;".repeat(6) + "G=a;}", 28);
    }

    private static void promise16Nothing() {
        Sentences.test("Promise 16", "NONE: nothing.");
        held("", NONE);
        held("{}", NONE);
        held("{a=new;}", NONE);
        held("{G=a;a=new;}", NONE);
        held("{a=new;G=a;G=b;}", NONE);
        held("{a=new;b=1(a);}{G=p;G=a;}", NONE);
        held("{}{a=new;G=a;}", NONE);
        held("{lock b;a=new;G=a;}", NONE);
        held("{a=new;G=a;G=b;lock b;}", NONE);
        // a RUN begins with nothing in G, whatever one of other METHODS left there
        KeptInside k = Check.read("{a=new;b=G;G=a;}", 1);
        Check.due("held()", k.held(), 0);
        k.drops(0, 2);
        Check.due("held(), never put", k.held(), NONE);
        k.back();
        Check.due("held(), put again", k.held(), 0);
        k.drops(0, 0);
        Check.due("held(), nothing made", k.held(), NONE);
        KeptInside takes = Check.read("{a=new;G=a;}", 1);
        Check.due("held()", takes.held(), 0);
        takes.clear();
        Check.typeAll(takes, "{b=new;a=G;lock a;}");
        takes.reads();
        Check.due("FAILS, as G holds nothing", takes.run(0), 1);
    }

    private static void promise18Refused() {
        Sentences.test("Promise 18", "How often refused: BAD (0), NO (1), FULL (2);");
        KeptInside k = new KeptInside();
        Check.typeAll(k, " ".repeat(200));
        for (int n = 1; n <= 4; n++) {
            Check.due("type(-1)", k.type(-1), BAD);
            Check.told("BAD", k, 3 * n - 2, n - 1, 2 * n - 2);
            Check.due("back()", k.back(), NO);
            Check.told("NO", k, 3 * n - 2, n, 2 * n - 2);
            Check.due("type(32)", k.type(32), FULL);
            Check.due("type(32)", k.type(32), FULL);
            Check.told("FULL", k, 3 * n - 2, n, 2 * n);
            Check.due("of(0, 0)", k.of(0, 0), BAD);
            Check.due("told(7)", k.told(7), BAD);
            Check.told("BAD", k, 3 * n, n, 2 * n);
        }
    }

    private static void promise18Rest() {
        Sentences.test("Promise 18", "bytes of THE TEXT (3), METHODS (4), SITES (5), STATES (6).");
        KeptInside k = Check.read("{a=new;b=a;}{b=new;r=new;}{}", 3);
        Check.told("read", k, 0, 0, 0, 28, 3, 3, 1);
        k.drops(1, 0);
        Check.told("a SITE less", k, 0, 0, 0, 28, 3, 2, 2);
        k.type(' ');
        Check.told("a byte more", k, 0, 0, 0, 29, 3, 2, 2);
        k.clear();
        Check.told("no bytes", k, 0, 0, 0, 0, 3, 2, 2);
        k.reads();
        Check.told("no METHODS", k, 0, 0, 0, 0, 0, 0, 3);
        k.back();
        Check.told("back", k, 0, 0, 0, 0, 3, 2, 2);
        KeptInside most = Check.read(FULLEST, 4);
        for (int n = 0; n < 6; n++) {
            most.swaps(0, 0);
        }
        Check.told("the most", most, 0, 0, 0, 200, 4, 32, 5);
    }

    private static void promise18Bad() {
        Sentences.test("Promise 18", "BAD.");
        for (String text : new String[] {"", UNEVEN, FULLEST}) {
            Numbers.tryAll("told", text, 1, (k, n) -> k.told(n[0]), n -> isIn(n[0], 7));
        }
    }
}
