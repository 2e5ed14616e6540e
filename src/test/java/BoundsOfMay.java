/** Terms: MAY, what is REACHED, FATE, LINES that are IDLE. */
final class BoundsOfMay {
    /** Each METHOD's a holds its b, that one its p, which is the a of the METHOD ahead: SITES 7 8 5 6 3 4 1 2 0. */
    private static final String CHAIN =
        "{p=new;a=new;b=new;a.f=b;b.f=p;r=1(a);}{a=new;b=new;a.f=b;b.f=p;r=2(a);}{a=new;b=new;a.f=b;b.f=p;r=3(a);}"
        + "{a=new;b=new;a.f=b;b.f=p;}";

    private BoundsOfMay() {
    }

    static void all() {
        theLeastSetsAllTogether();
        xIsNew();
        xIsY();
        fOfXIsY();
        xIsFOfY();
        openPlaceLikewise();
        xIsCalled();
        reachedFromASet();
        fateOpen();
        fateOut();
        fateKept();
        idleLines();
    }

    private static void theLeastSetsAllTogether() {
        Sentences.test("Terms", "MAY: to each NAME of each METHOD, to G, to f of each SITE a set of SITES: the least such sets, "
            + "all together, so that:");
        KeptInside empty = Check.read("{a=b;b=a;a.f=a;r=a.f;G=r;p=G;p=1(p);}{r=p;}", 2);
        Check.mays("rings with no SITE stay empty", empty, 0, 0, 0, 0, 0);
        Check.mays("rings with no SITE stay empty", empty, 1, 0, 0, 0, 0);
        Check.due("G", empty.open(), 0);
        KeptInside backward = Check.read("{r=b;b=a;a=p;p=G;}{G=r;r=b;b=a;a=new;}", 2);
        Check.mays("LINES that come the wrong way round", backward, 0, 1, 1, 1, 1);
        Check.mays("LINES that come the wrong way round", backward, 1, 0, 1, 1, 1);
        KeptInside ring = Check.read("{a=1(a);}{r=p;b=new;G=b;p=G;}", 2);
        Check.mays("a ring through a call", ring, 0, 0, 1, 0, 0);
        Check.mays("a ring through a call", ring, 1, 1, 0, 1, 1);
        KeptInside fields = Check.read("{r=a.f;a.f=b;a=new;b=new;}", 1);
        Check.mays("f, asked for ahead of being filled", fields, 0, 0, 1, 2, 2);
        KeptInside less = Check.read("{a=new;b=a;p=b;r=p;}", 1);
        Check.mays("as long as b has it", less, 0, 1, 1, 1, 1);
        less.drops(0, 1);
        Check.mays("the least ones of what is left", less, 0, 0, 1, 0, 0);
        less.drops(0, 0);
        Check.mays("the least ones of what is left", less, 0, 0, 0, 0, 0);
        less.back();
        less.back();
        Check.mays("as it was", less, 0, 1, 1, 1, 1);
        KeptInside few = Check.read("{a=new;b=new;}{a=b;}", 2);
        Check.mays("nothing but what must be", few, 0, 0, 1, 2, 0);
        Check.mays("nothing but what must be", few, 1, 0, 0, 0, 0);
        Check.due("f", few.site(0, 3) + few.site(1, 3), 0);
    }

    private static void xIsNew() {
        Sentences.test("Terms", "x = new: MAY x has that SITE;");
        for (int x = 0; x < 4; x++) {
            KeptInside k = Check.read("{" + "pabr".charAt(x) + "=new;}", 1);
            for (int other = 0; other < 4; other++) {
                Check.due("may(0, " + other + "), x being " + x, k.may(0, other), other == x ? 1 : 0);
            }
        }
        Check.mays("one made again keeps both", Check.read("{a=new;a=new;}", 1), 0, 0, 3, 0, 0);
        Check.mays("none made", Check.read("{lock a;}", 1), 0, 0, 0, 0, 0);
    }

    private static void xIsY() {
        Sentences.test("Terms", "x = y: MAY x has all of MAY y;");
        Check.mays("all of two", Check.read("{a=new;a=new;b=a;}", 1), 0, 0, 3, 3, 0);
        Check.mays("not the other way", Check.read("{a=new;b=new;b=a;}", 1), 0, 0, 1, 3, 0);
        Check.mays("none of none", Check.read("{a=new;b=p;}", 1), 0, 0, 1, 0, 0);
        Check.mays("itself", Check.read("{a=new;a=a;}", 1), 0, 0, 1, 0, 0);
        Check.mays("of two that share a SITE", Check.read("{b=new;p=new;a=new;p=b;a=b;r=p;r=a;}", 1), 0, 3, 5, 1, 7);
    }

    private static void fOfXIsY() {
        Sentences.test("Terms", "x.f = y: MAY f of each SITE of MAY x has all of MAY y;");
        fields("{a=new;a=new;b=new;b=new;a.f=b;}", 0b1100, 0b1100, 0, 0);
        fields("{b=new;a.f=b;}", 0);
        fields("{a=new;a.f=b;}", 0);
        fields("{a=new;a.f=a;}", 1);
        fields("{a=new;b=new;a.f=b;b.f=a;a.f=a;}", 3, 1);
        fields("{b=new;p=new;a=new;p=b;a=b;r=new;r.f=p;r.f=a;}", 0, 0, 0, 7);
        Check.mays("NAMES stay", Check.read("{a=new;b=new;a.f=b;}", 1), 0, 0, 1, 2, 0);
    }

    private static void fields(String text, int... want) {
        KeptInside k = Check.read(text, 1);
        for (int s = 0; s < want.length; s++) {
            Check.due("f of SITE " + s + " in " + text, k.site(s, 3), want[s]);
        }
    }

    private static void xIsFOfY() {
        Sentences.test("Terms", "x = y.f: MAY x has all of MAY f of each SITE of MAY y;");
        Check.mays("each SITE", Check.read("{a=new;b=new;a.f=a;b.f=b;p=a;p=b;r=p.f;}", 1), 0, 3, 1, 2, 3);
        Check.mays("no other SITE", Check.read("{a=new;b=new;a.f=a;b.f=b;r=a.f;}", 1), 0, 0, 1, 2, 1);
        Check.mays("all of f", Check.read("{a=new;b=new;b=new;a.f=b;r=a.f;}", 1), 0, 0, 1, 6, 6);
        Check.mays("y has none", Check.read("{a=new;a.f=a;r=b.f;}", 1), 0, 0, 1, 0, 0);
        Check.mays("f has none", Check.read("{a=new;r=a.f;}", 1), 0, 0, 1, 0, 0);
    }

    private static void openPlaceLikewise() {
        Sentences.test("Terms", "G = x, x = G: likewise;");
        KeptInside k = Check.read("{a=new;b=new;G=a;G=b;r=G;}", 1);
        Check.due("all that is put", k.open(), 3);
        Check.mays("all that is taken", k, 0, 0, 1, 2, 3);
        Check.due("of two that share a SITE", Check.read("{b=new;p=new;a=new;p=b;a=b;G=p;G=a;}", 1).open(), 7);
        KeptInside none = Check.read("{a=new;G=b;r=G;}", 1);
        Check.due("none put", none.open(), 0);
        Check.mays("none taken", none, 0, 0, 1, 0, 0);
    }

    private static void xIsCalled() {
        Sentences.test("Terms", "x = m(y): MAY p of m has all of MAY y, MAY x has all of MAY r of m.");
        KeptInside k = Check.read("{a=new;b=2(a);}{p=new;r=p;}{r=new;a=new;b=new;}", 3);
        Check.mays("the caller", k, 0, 0, 1, 4, 0);
        Check.mays("one that is not called", k, 1, 2, 0, 0, 2);
        Check.mays("the called one", k, 2, 1, 8, 16, 4);
        KeptInside twice = Check.read("{a=new;a=new;p=1(a);b=1(b);}{r=p;}", 2);
        Check.mays("what one call hands in, another one gets, too", twice, 0, 3, 3, 3, 0);
        KeptInside back = Check.read("{a=new;b=1(a);}{p=new;}", 2);
        Check.mays("p does not come back", back, 0, 0, 1, 0, 0);
        Check.mays("p has what was handed in and what it was made", back, 1, 3, 0, 0, 0);
        KeptInside far = Check.read("{a=new;b=1(a);}{r=2(p);}{r=3(p);}{r=p;}", 4);
        Check.mays("through all four", far, 0, 0, 1, 1, 0);
        Check.mays("through all four", far, 3, 1, 0, 0, 1);
    }

    private static void reachedFromASet() {
        Sentences.test("Terms", "(What is REACHED from a set of SITES: it, MAY f of each of it, and so on.)");
        KeptInside k = Check.read(CHAIN, 4);
        Check.due("from the chain's beginning", k.reached(3, 1), 0b111111111);
        Check.due("one further", k.reached(3, 2), 0b101111111);
        Check.due("from p of 3", k.reached(3, 0), 0b001111111);
        Check.due("from a of 1", k.reached(1, 1), 0b000011111);
        Check.due("from a of 0", k.reached(0, 1), 0b000000111);
        Check.due("from the chain's end", k.reached(0, 0), 0b000000001);
        Check.due("from none", k.reached(0, 3), 0);
        KeptInside ring = Check.read("{a=new;b=new;a.f=b;b.f=a;p=new;p.f=p;r=new;}", 1);
        Check.due("from a ring", ring.reached(0, 1), 0b0011);
        Check.due("from one that holds itself", ring.reached(0, 0), 0b0100);
        Check.due("from one that holds none", ring.reached(0, 3), 0b1000);
        KeptInside two = Check.read("{a=new;b=new;p=new;a=b;a.f=p;}", 1);
        Check.due("from a set of two", two.reached(0, 1), 0b111);
    }

    private static void fateOpen() {
        Sentences.test("Terms", "FATE of a SITE of a METHOD: 2 OPEN, if it is REACHED from MAY G;");
        fates("{a=new;}", 0);
        fates("{a=new;G=a;}", 2);
        fates("{a=new;b=new;a.f=b;G=a;}", 2, 2);
        fates("{a=new;b=new;a.f=b;G=b;}", 0, 2);
        fates("{r=new;G=r;}", 2);
        fates("{p=new;G=p;}", 2);
        fates("{}{a=new;G=a;}", 2);
        fates("{a=new;b=1(a);}{G=p;}", 2);
        fates(CHAIN.substring(0, CHAIN.length() - 1) + "G=a;}", 2, 2, 2, 2, 2, 2, 2, 2, 2);
        fates(CHAIN.substring(0, CHAIN.length() - 1) + "G=b;}", 2, 2, 2, 2, 2, 2, 2, 0, 2);
    }

    private static void fateOut() {
        Sentences.test("Terms", "else 1 OUT, if it is REACHED from MAY p and MAY r of that METHOD together;");
        fates("{p=new;r=new;a=new;b=new;}", 1, 1, 0, 0);
        fates("{p=new;r=new;a=new;b=new;p.f=a;r.f=b;}", 1, 1, 1, 1);
        fates("{a=new;b=new;r=new;r.f=a;a.f=b;}", 1, 1, 1);
        fates("{a=new;b=new;p=new;p.f=a;a.f=b;}", 1, 1, 1);
        fates("{a=new;b=1(a);}{a=new;p.f=a;}", 0, 1);
        fates("{b=1(a);}{r=new;}", 1);
        fates("{a=new;b=1(a);}{r=p;}", 0);
        fates("{a=new;r=new;a.f=r;}", 0, 1);
        fates("{a=new;r=new;r.f=a;G=a;}", 2, 1);
        fates(CHAIN, 1, 0, 0, 0, 0, 0, 0, 0, 0);
    }

    private static void fateKept() {
        Sentences.test("Terms", "else 0 KEPT.");
        fates("{a=new;b=new;a.f=b;b.f=a;lock a;}", 0, 0);
        fates("{a=new;b=1(a);b=2(a);b=3(a);}{lock p;}{r=p;}{p=new;}", 0, 1);
        fates("{a=new;r=new;b=new;G=b;}", 0, 1, 2);
    }

    private static void fates(String text, int... want) {
        KeptInside k = Check.readAny(text);
        Check.due("SITES of " + text, k.told(5), want.length);
        for (int s = 0; s < want.length; s++) {
            Check.due("FATE of SITE " + s + " in " + text, k.site(s, 2), want[s]);
        }
    }

    private static void idleLines() {
        Sentences.test("Terms", "A LINE of SORT 6 is IDLE, if MAY x is not empty and all SITES of it are KEPT.");
        idle("{lock a;}", 0, 0);
        idle("{a=new;lock b;}", 0, 0);
        idle("{a=new;lock a;}", 0, 0b10);
        idle("{a=new;a=new;lock a;}", 0, 0b100);
        idle("{lock a;a=new;b=a;b=a;b=a;b=a;b=a;lock b;}", 0, 0b10000001);
        idle("{lock a;lock a;lock a;lock a;lock a;lock a;lock a;a=new;}", 0, 0b01111111);
        idle("{a=new;a=p;p=new;lock a;}", 0, 0);
        idle("{a=new;a=r;r=new;lock a;}", 0, 0);
        idle("{a=new;b=new;a=b;G=b;lock a;}", 0, 0);
        idle("{a=new;b=new;b=a;G=b;lock a;}", 0, 0);
        idle("{a=new;b=new;G=b;lock a;lock b;}", 0, 0b01000);
        idle("{a=new;b=a;b.f=a;a=b.f;lock b;}", 0, 0b10000);
        idle("{a=new;b=1(a);}{lock p;}", 1, 1);
        idle("{a=new;b=1(a);G=a;}{lock p;}", 1, 0);
        idle("{b=1(a);lock b;}{r=new;lock r;}", 0, 0);
        idle("{b=1(a);lock b;}{r=new;lock r;}", 1, 0);
    }

    private static void idle(String text, int m, int want) {
        Check.due("IDLE LINES of METHOD " + m + " in " + text, Check.readAny(text).of(m, 3), want);
    }
}
