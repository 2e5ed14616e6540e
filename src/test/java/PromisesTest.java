/** One part for each promise of the document, its answers worked out by hand. */
public final class PromisesTest {
    private static final int NONE = KeptInside.NONE, BAD = KeptInside.BAD, NO = KeptInside.NO, FULL = KeptInside.FULL;
    private static final int[] WILD = {Integer.MIN_VALUE, -1000, -1, 1000, Integer.MAX_VALUE};

    private PromisesTest() {
    }

    public static void main(String[] args) {
        newObject();
        type();
        clear();
        reads();
        readsWrongTexts();
        drops();
        swaps();
        of();
        line();
        site();
        may();
        mayThroughCalls();
        open();
        reached();
        fates();
        fatesByWays();
        thirtyTwoSites();
        run();
        runFails();
        leaks();
        ran();
        held();
        back();
        told();
        digest();
        refusals();
        Check.end("PromisesTest");
    }

    private static void newObject() {
        KeptInside k = new KeptInside();
        Check.told("new", k, 0, 0, 0, 0, 0, 0, 0);
        Check.due("new: open()", k.open(), 0);
        Check.due("new: held()", k.held(), NONE);
        for (int what = 0; what < 6; what++) {
            Check.due("new: run(" + what + ")", k.run(what), 0);
        }
        for (int fate = 0; fate < 3; fate++) {
            Check.due("new: fates(" + fate + ")", k.fates(fate), 0);
        }
        Check.due("new: back()", k.back(), NO);
        Check.due("NONE", KeptInside.NONE, -1);
        Check.due("BAD", KeptInside.BAD, -2);
        Check.due("NO", KeptInside.NO, -3);
        Check.due("FULL", KeptInside.FULL, -4);
    }

    private static void type() {
        KeptInside k = new KeptInside();
        Check.due("type(0)", k.type(0), 1);
        Check.due("type(127)", k.type(127), 2);
        Check.due("type(128)", k.type(128), BAD);
        Check.due("type(-1)", k.type(-1), BAD);
        Check.due("type(32) behind refused ones", k.type(32), 3);
        for (int n = 4; n <= 200; n++) {
            Check.due("type() number " + n, k.type('a'), n);
        }
        Check.due("type() number 201", k.type('a'), FULL);
        Check.due("type(128), and full", k.type(128), BAD);
        Check.told("full", k, 3, 0, 1, 200, 0, 0, 0);
        Check.due("clear() of a full one", k.clear(), 200);
        Check.due("type() behind clear()", k.type('a'), 1);
    }

    private static void clear() {
        KeptInside k = Check.read("{a=new;}", 1);
        Check.due("clear()", k.clear(), 8);
        Check.due("clear() again", k.clear(), 0);
        Check.told("METHODS stay", k, 0, 0, 0, 0, 1, 1, 1);
        Check.typeAll(k, "{}{}");
        Check.due("reads() of the new text alone", k.reads(), 2);
    }

    private static void reads() {
        Check.read("", 0);
        Check.read("   ", 0);
        Check.read("{}", 1);
        Check.read(" { } { }{}  {} ", 4);
        Check.read("{a=new;b=new;p=new;r=new;a=new;b=new;p=new;r=new;}", 1);
        Check.read(" { a = new ; a . f = b ; b = a . f ; G = r ; p = G ; lock p ; r = 1 ( a ) ; a = b ; } { } ", 2);
        Check.read("{lock  a;}", 1);
        Check.read("{a=1(a);a=2(a);a=3(a);}{a=2(a);a=3(a);}{a=3(a);}{}", 4);

        KeptInside k = Check.read("{a=new;}{b=new;}", 2);
        Check.due("reads() again", k.reads(), 2);
        Check.told("THE TEXT stays", k, 0, 0, 0, 16, 2, 2, 2);
        Check.due("type() behind reads()", k.type('{'), 17);
        long before = k.digest();
        Check.due("reads() with a FAULT", k.reads(), -10 - 17);
        Check.due("all stays", k.digest(), before);
        Check.told("a FAULT is no refusal and leaves no STATE", k, 0, 0, 0, 17, 2, 2, 2);
    }

    /** Each text with the place of its FAULT. */
    private static void readsWrongTexts() {
        Check.fault("a", 0);
        Check.fault("  }", 2);
        Check.fault("{", 1);
        Check.fault("{ ", 2);
        Check.fault("{}}", 2);
        Check.fault("{{", 1);
        Check.fault("{;}", 1);
        Check.fault("{a;}", 2);
        Check.fault("{a", 2);
        Check.fault("{a=", 3);
        Check.fault("{a=b", 4);
        Check.fault("{a=b  ", 6);
        Check.fault("{a=b}", 4);
        Check.fault("{a=b;", 5);
        Check.fault("{a==b;}", 3);
        Check.fault("{a=f;}", 3);
        Check.fault("{f=a;}", 1);
        Check.fault("{a.f=b.f;}", 6);
        Check.fault("{a.f=new;}", 5);
        Check.fault("{a.f=G;}", 5);
        Check.fault("{a.f=1(a);}{}", 5);
        Check.fault("{a.f.f=b;}", 4);
        Check.fault("{a.f;}", 4);
        Check.fault("{a.b=a;}", 3);
        Check.fault("{a.ff=a;}", 3);
        Check.fault("{a.=a;}", 3);
        Check.fault("{a=b.f.f;}", 6);
        Check.fault("{a=b.fa;}", 5);
        Check.fault("{G=G;}", 3);
        Check.fault("{G=1(a);}{}", 3);
        Check.fault("{G=a.f;}", 4);
        Check.fault("{GG=a;}", 2);
        Check.fault("{aG=a;}", 2);
        Check.fault("{a=Ga;}", 4);
        Check.fault("{a=G.f;}", 4);
        Check.fault("{a=aG;}", 4);
        Check.fault("{a=newG;}", 6);
        Check.fault("{lockG;}", 5);
        Check.fault("{lock G;}", 6);
        Check.fault("{lock;}", 5);
        Check.fault("{lock lock;}", 6);
        Check.fault("{lock a.f;}", 7);
        Check.fault("{locka;}", 1);
        Check.fault("{lo ck a;}", 1);
        Check.fault("{a=ne w;}", 3);
        Check.fault("{ab=a;}", 1);
        Check.fault("{a=ab;}", 3);
        Check.fault("{az=a;}", 1);
        Check.fault("{a=zb;}", 3);
        Check.fault("{a=newz;}", 3);
        Check.fault("{a=new`;}", 6);
        Check.fault("{a=b{;}", 4);
        Check.fault("{a=now;}", 3);
        Check.fault("{lick a;}", 1);
        Check.fault("{a=New;}", 3);
        Check.fault("{a=g;}", 3);
        Check.fault("{g=a;}", 1);
        Check.fault("{new=a;}", 1);
        Check.fault("{lock=a;}", 5);
        // a word that is none there, at the end of THE TEXT too; a word that is well: too early an end
        Check.fault("{l", 1);
        Check.fault("{loc", 1);
        Check.fault("{lock", 5);
        Check.fault("{  n", 3);
        Check.fault("{a=n", 3);
        Check.fault("{a=ne", 3);
        Check.fault("{a=new", 6);
        Check.fault("{a=newx", 3);
        Check.fault("{a.", 3);
        Check.fault("{a.f", 4);
        Check.fault("{a.fo", 3);
        Check.fault("{a=1", 4);
        Check.fault("{a=1(", 5);
        Check.fault("{a=1(p", 6);
        Check.fault("{a=1(pp", 5);
        Check.fault("{a=1(p)", 7);
        // other bytes
        Check.fault("{a\t=b;}", 2);
        Check.fault("{a=b;\n}", 5);
        Check.fault("" + (char) 0, 0);
        Check.fault("{}" + (char) 127, 2);
        // figures
        Check.fault("{a=0(a);}", 3);
        Check.fault("{a=4(a);}", 3);
        Check.fault("{a=12(a);}{}{}", 4);
        Check.fault("{a=1 2(a);}{}{}", 5);
        Check.fault("{a=1a);}{}", 4);
        Check.fault("{a=1(G);}{}", 5);
        Check.fault("{a=1();}{}", 5);
        Check.fault("{a=1(a;}{}", 6);
        Check.fault("{a=1(a.f);}{}", 6);
        Check.fault("{}{a=1(a);}{}", 5);
        Check.fault("{}{a=0(a);}{}", 5);
        Check.fault("{}{}{a=2(a);}{}", 7);
        Check.fault("{}{}{}{a=3(a);}", 9);
        // METHODS that are not there: only if all else is well
        Check.fault("{a=1(a);}", 3);
        Check.fault("{a=2(a);b=1(a);}{}", 3);
        Check.fault("{a=1(a);b=3(a);a=2(a);}{}", 10);
        Check.fault("{a=1(a);}{b=3(a);}", 12);
        Check.fault("{a=3(a);}{b=2(a);}{}", 3);
        Check.fault("{a=3(a);}x", 9);
        Check.fault("{a=3(a);", 8);
        Check.fault("{ a = 3 ( a ) ; } ", 6);
        // too many
        Check.fault("{}{}{}{}{}", 8);
        Check.fault("{}{}{}{}  {", 10);
        Check.fault("{}{}{}{}a", 8);
        String eight = "{a=b;a=b;a=b;a=b;a=b;a=b;a=b;a=b;";
        Check.read(eight + "}", 1);
        Check.fault(eight + "a=b;}", 33);
        Check.fault(eight + "  lock a;}", 35);
        Check.fault(eight + "G=a;}", 33);
        Check.fault(eight + "x", 33);
        Check.fault(eight + " ", 34);
        Check.fault(eight, 33);
    }

    private static void drops() {
        KeptInside k = Check.read("{a=new;lock a;r=a;}{b=new;}", 2);
        Check.due("drops(0, 1)", k.drops(0, 1), 2);
        Check.due("what was behind is nearer", k.line(0, 1, 0), 1);
        Check.due("another METHOD stays", k.of(1, 0), 1);
        Check.due("drops(0, 0)", k.drops(0, 0), 1);
        Check.due("SITES are numbered anew", k.line(1, 0, 4), 0);
        Check.due("drops(0, 1), none there", k.drops(0, 1), BAD);
        Check.due("drops(0, 0), the last", k.drops(0, 0), 0);
        Check.due("drops(0, 0), none left", k.drops(0, 0), BAD);
        Check.due("drops(2, 0)", k.drops(2, 0), BAD);
        Check.due("drops(-1, 0)", k.drops(-1, 0), BAD);
        Check.due("drops(1, -1)", k.drops(1, -1), BAD);
        Check.told("three STATES", k, 5, 0, 0, 27, 2, 1, 4);
    }

    private static void swaps() {
        KeptInside k = Check.read("{a=new;lock a;r=a;}{b=new;}", 2);
        Check.due("swaps(0, 1)", k.swaps(0, 1), 1);
        Check.due("LINE 1 then", k.line(0, 1, 0), 1);
        Check.due("LINE 2 then", k.line(0, 2, 0), 6);
        Check.due("swaps(0, 0)", k.swaps(0, 0), 1);
        Check.due("the SITE goes with its LINE", k.site(0, 1), 1);
        Check.due("swaps(0, 2)", k.swaps(0, 2), BAD);
        Check.due("swaps(0, 3)", k.swaps(0, 3), BAD);
        Check.due("swaps(0, -1)", k.swaps(0, -1), BAD);
        Check.due("swaps(1, 0)", k.swaps(1, 0), BAD);
        Check.due("swaps(2, 0)", k.swaps(2, 0), BAD);
        Check.due("swaps(0, MAX)", k.swaps(0, Integer.MAX_VALUE), BAD);
        Check.told("two STATES more", k, 6, 0, 0, 27, 2, 2, 3);
        KeptInside same = Check.read("{a=b;a=b;}", 1);
        Check.due("swaps() of two alike", same.swaps(0, 0), 1);
        Check.due("leaves a STATE, too", same.told(6), 2);
    }

    private static void of() {
        KeptInside k = Check.read("{a=new;b=new;G=b;lock a;lock b;lock p;r=3(a);r=1(b);}{a=new;}{}{lock p;}", 4);
        int[][] want = {{8, 2, 1, 0b1000, 0b1010}, {1, 1, 1, 0, 0}, {0, 0, 0, 0, 0}, {1, 0, 0, 1, 0}};
        for (int m = 0; m < want.length; m++) {
            for (int what = 0; what < 5; what++) {
                Check.due("of(" + m + ", " + what + ")", k.of(m, what), want[m][what]);
            }
        }
        Check.due("of(4, 0)", k.of(4, 0), BAD);
        Check.due("of(-1, 0)", k.of(-1, 0), BAD);
        Check.due("of(0, 5)", k.of(0, 5), BAD);
        Check.due("of(0, -1)", k.of(0, -1), BAD);
    }

    private static void line() {
        KeptInside k = Check.read("{a=new;b=p;r.f=a;p=b.f;G=r;a=G;lock b;r=2(p);}{a=new;}{b=new;}", 3);
        int[][] want = {
            {0, 1, NONE, NONE, 0}, {1, 2, 0, NONE, NONE}, {2, 3, 1, NONE, NONE}, {3, 0, 2, NONE, NONE},
            {4, 3, NONE, NONE, NONE}, {5, 1, NONE, NONE, NONE}, {6, 2, NONE, NONE, NONE}, {7, 3, 0, 2, NONE}};
        for (int i = 0; i < want.length; i++) {
            for (int what = 0; what < 5; what++) {
                Check.due("line(0, " + i + ", " + what + ")", k.line(0, i, what), want[i][what]);
            }
        }
        Check.due("line(1, 0, 4)", k.line(1, 0, 4), 1);
        Check.due("line(2, 0, 4)", k.line(2, 0, 4), 2);
        Check.due("line(0, 8, 0)", k.line(0, 8, 0), BAD);
        Check.due("line(1, 1, 0)", k.line(1, 1, 0), BAD);
        Check.due("line(3, 0, 0)", k.line(3, 0, 0), BAD);
        Check.due("line(-1, 0, 0)", k.line(-1, 0, 0), BAD);
        Check.due("line(0, -1, 0)", k.line(0, -1, 0), BAD);
        Check.due("line(0, 0, 5)", k.line(0, 0, 5), BAD);
        Check.due("line(0, 0, -1)", k.line(0, 0, -1), BAD);
    }

    private static void site() {
        KeptInside k = Check.read("{lock a;a=new;a.f=b;b=new;G=b;}{}{r=new;p.f=r;}", 3);
        int[][] want = {{0, 1, 0, 0b10}, {0, 3, 2, 0}, {2, 0, 1, 0}};
        for (int s = 0; s < want.length; s++) {
            for (int what = 0; what < 4; what++) {
                Check.due("site(" + s + ", " + what + ")", k.site(s, what), want[s][what]);
            }
        }
        Check.due("site(3, 0)", k.site(3, 0), BAD);
        Check.due("site(-1, 0)", k.site(-1, 0), BAD);
        Check.due("site(0, 4)", k.site(0, 4), BAD);
        Check.due("site(0, -1)", k.site(0, -1), BAD);
    }

    private static void may() {
        // the order of LINES is of no matter for what may be, and nothing is ever taken away
        KeptInside k = Check.read("{r=b;b=a;a=new;a=new;a.f=a;p=r.f;}", 1);
        for (int x = 0; x < 4; x++) {
            Check.due("may(0, " + x + ")", k.may(0, x), 0b11);
        }
        KeptInside f = Check.read("{a=new;b=new;a.f=b;r=a;p=r.f;p.f=a;b=p.f;}", 1);
        Check.due("p by f of r, and back by b", f.may(0, 0), 0b11);
        Check.due("b by f of p", f.may(0, 2), 0b11);
        Check.due("f of SITE 0", f.site(0, 3), 0b11);
        Check.due("f of SITE 1", f.site(1, 3), 0b01);
        Check.due("may(1, 0)", f.may(1, 0), BAD);
        Check.due("may(-1, 0)", f.may(-1, 0), BAD);
        Check.due("may(0, 4)", f.may(0, 4), BAD);
        Check.due("may(0, -1)", f.may(0, -1), BAD);
    }

    private static void mayThroughCalls() {
        // both calls come together in p and r of METHOD 2; METHOD 1 counts though nothing calls it
        KeptInside k = Check.read("{a=new;b=2(a);}{a=new;b=2(a);G=b;}{r=p;a=G;}", 3);
        Check.due("p of 2", k.may(2, 0), 0b11);
        Check.due("b of 0", k.may(0, 2), 0b11);
        Check.due("b of 1", k.may(1, 2), 0b11);
        Check.due("G", k.open(), 0b11);
        Check.due("a of 2, by G", k.may(2, 1), 0b11);
        Check.due("a of 0", k.may(0, 1), 0b01);
        Check.due("p of 0", k.may(0, 0), 0);
    }

    private static void open() {
        KeptInside k = Check.read("{a=new;G=a;a=new;b=new;a.f=b;b=G;}{r=new;}", 2);
        Check.due("G", k.open(), 0b011);
        Check.due("b by G", k.may(0, 2), 0b111);
        k.drops(0, 1);
        Check.due("G, with no LINE that fills it", k.open(), 0);
    }

    private static void reached() {
        KeptInside k = Check.read("{a=new;b=new;r=new;a.f=b;b.f=r;p=new;}{a=new;p=a;a.f=a;}", 2);
        Check.due("reached from a", k.reached(0, 1), 0b111);
        Check.due("reached from b", k.reached(0, 2), 0b110);
        Check.due("reached from r", k.reached(0, 3), 0b100);
        Check.due("reached from p", k.reached(0, 0), 0b1000);
        Check.due("reached from p of 1, a ring", k.reached(1, 0), 0b10000);
        Check.due("reached from r of 1", k.reached(1, 3), 0);
        Check.due("reached(2, 0)", k.reached(2, 0), BAD);
        Check.due("reached(-1, 0)", k.reached(-1, 0), BAD);
        Check.due("reached(0, 4)", k.reached(0, 4), BAD);
        Check.due("reached(0, -1)", k.reached(0, -1), BAD);
    }

    private static void fates() {
        KeptInside k = Check.read("{a=new;r=new;b=new;G=b;p=new;b.f=p;r.f=b;}", 1);
        Check.due("KEPT", k.fates(0), 1);
        Check.due("OUT", k.fates(1), 1);
        Check.due("OPEN, by f too, though out as well", k.fates(2), 2);
        Check.due("fates(3)", k.fates(3), BAD);
        Check.due("fates(-1)", k.fates(-1), BAD);
    }

    private static void fatesByWays() {
        // p counts whatever comes to be in it, and so does what is put into what p may hold
        KeptInside k = Check.read("{a=new;b=1(a);b=a.f;}{a=new;p.f=a;b=new;b.f=a;p=new;}", 2);
        Check.due("a of 0 stays", k.site(0, 2), 0);
        Check.due("a of 1 is put into p", k.site(1, 2), 1);
        Check.due("what only holds it stays", k.site(2, 2), 0);
        Check.due("what p is made", k.site(3, 2), 1);
        // a SITE that gets out of its own METHOD only counts by p and r of that METHOD
        KeptInside r = Check.read("{r=1(a);lock r;}{r=new;lock r;a=new;lock a;lock b;}", 2);
        Check.due("out of 1", r.site(0, 2), 1);
        Check.due("no IDLE lock in 0", r.of(0, 3), 0);
        Check.due("IDLE: a, not r, not b that holds nothing", r.of(1, 3), 0b01000);
        // a lock is IDLE only if every SITE stays
        KeptInside both = Check.read("{a=new;b=a;lock b;b=new;lock a;G=b;b=G;}{p=new;b=new;a=p;a=b;lock b;lock a;}", 2);
        Check.due("b goes to G and takes a along", both.of(0, 3), 0);
        Check.due("of 1: lock b, not a that may hold what is out", both.of(1, 3), 0b10000);
    }

    private static void thirtyTwoSites() {
        String eight = "{a=new;b=new;p=new;r=new;a=new;b=new;p=new;r=new;}";
        KeptInside k = Check.read(eight + eight + eight + eight, 4);
        Check.due("bytes", k.told(3), 200);
        Check.due("SITES", k.told(5), 32);
        Check.due("r of 3", k.may(3, 3), 1 << 31 | 1 << 27);
        Check.due("reached from r of 3", k.reached(3, 3), 1 << 31 | 1 << 27);
        Check.due("the last SITE's METHOD", k.site(31, 0), 3);
        Check.due("the last SITE's LINE", k.site(31, 1), 7);
        Check.due("the last SITE's FATE", k.site(31, 2), 1);
        Check.due("the last LINE's SITE", k.line(3, 7, 4), 31);
        Check.due("site(32, 0)", k.site(32, 0), BAD);
        Check.due("OUT: p and r", k.fates(1), 16);
        Check.due("KEPT: a and b", k.fates(0), 16);
        Check.due("of(3, 2)", k.of(3, 2), 4);
        Check.due("a RUN makes those of METHOD 0", k.run(1), 8);
        // the greatest SITE in fields and in G, too
        KeptInside g = Check.read("{a=new;b=new;a.f=b;G=a;}", 1);
        Check.due("f", g.site(0, 3), 2);
    }

    private static void run() {
        KeptInside k = Check.read("{a=new;lock a;b=1(a);lock b;b=1(a);}{r=new;lock r;lock p;b=2(r);a=new;lock a;}{}", 3);
        int[] want = {0, 5, 8, 5, 5, 2};
        for (int what = 0; what < want.length; what++) {
            Check.due("run(" + what + ")", k.run(what), want[what]);
        }
        Check.due("run(6)", k.run(6), BAD);
        Check.due("run(-1)", k.run(-1), BAD);
        KeptInside empty = Check.read("{}{a=new;}", 2);
        Check.due("CALLS of an empty METHOD 0", empty.run(4), 1);
        Check.due("METHOD 1 is not CALLED", empty.run(1), 0);
        // each CALL begins with nothing in a, b, r
        KeptInside again = Check.read("{a=new;b=1(a);b=1(a);G=b;}{r=a;a=p;}", 2);
        Check.due("nothing of the CALL before", again.held(), NONE);
        // the most that a TEXT can have done
        String calls = "a=1(a);a=1(a);a=1(a);a=1(a);a=1(a);a=1(a);a=1(a);";
        String sevens = "{" + calls + "}{" + calls.replace('1', '2') + "}{" + calls.replace('1', '3') + "}";
        KeptInside most = Check.read(sevens + "{a=new;b=new;p=new;r=new;a=new;b=new;p=new;}", 4);
        Check.due("THINGS", most.run(1), 2401);
        Check.due("LEAKS", most.run(5), 343);
        Check.due("CALLS", most.run(4), 1 + 7 + 49 + 343);
    }

    private static void runFails() {
        fails("{a.f=b;}", 1);
        fails("{b=a.f;}", 1);
        fails("{lock a;}", 1);
        fails("{lock p;}", 1);
        fails("{a=new;b=a.f;lock b;}", 1);
        fails("{a=new;a.f=b;b=a.f;}", 0);
        fails("{a=b;G=a;a=G;}", 0);
        fails("{a=1(a);}{r=p;}", 0);
        fails("{a=1(a);}{lock p;}", 1);
        KeptInside k = Check.read("{a=new;G=a;b=1(a);b=new;lock b;}{a=new;lock a;r=new;b=2(r);lock b;r=new;}{r=p.f;a=new;}", 3);
        int[] want = {1, 4, 1, 1, 3, 0};
        for (int what = 0; what < want.length; what++) {
            Check.due("run(" + what + ") that FAILS", k.run(what), want[what]);
        }
        Check.due("G at its end", k.held(), 0);
        // a CALL that ended ahead of the FAILING has leaked what it leaked
        KeptInside late = Check.read("{r=1(a);lock a;}{r=new;}", 2);
        Check.due("FAILS", late.run(0), 1);
        Check.due("LEAKS ahead of it", late.run(5), 1);
        KeptInside open = Check.read("{r=new;G=r;lock a;}", 1);
        Check.due("no LEAK of a CALL that FAILS", open.run(5), 0);
    }

    private static void fails(String text, int want) {
        KeptInside k = Check.read(text, text.indexOf("}{") < 0 ? 1 : 2);
        Check.due("run(0) of " + text, k.run(0), want);
    }

    private static void leaks() {
        leaks("{a=new;}", 1, 0);
        leaks("{r=new;}", 1, 1);
        leaks("{r=new;r=new;}", 1, 1);
        leaks("{p=new;}", 1, 0);
        leaks("{a=new;G=a;}", 1, 1);
        leaks("{a=new;G=a;G=b;}", 1, 0);
        leaks("{a=new;r=new;r.f=a;a.f=r;}", 1, 2);
        leaks("{a=new;r=new;a.f=r;}", 1, 1);
        leaks("{a=new;r=new;r.f=a;r.f=b;}", 1, 1);
        leaks("{a=new;b=1(a);}{a=new;p.f=a;}", 2, 1);
        // p as it was at the beginning, not as it is at the end
        leaks("{a=new;b=1(a);}{a=new;p.f=a;p=new;}", 2, 1);
        leaks("{a=new;b=1(a);}{a=new;b=new;p=b;b.f=a;}", 2, 0);
        // only at the end of the CALL that made it
        leaks("{a=1(a);G=a;G=b;}{r=new;}", 2, 1);
        leaks("{a=new;b=1(a);G=b;}{r=p;}", 2, 1);
        leaks("{a=new;b=1(a);}{G=p;}", 2, 1);
        leaks("{a=new;G=a;b=1(a);}{G=a;}", 2, 0);
        // through a ring, and through what an outer CALL holds
        leaks("{a=new;a.f=a;b=1(a);}{a=new;a.f=p;p.f=a;}", 2, 1);
        leaks("{a=new;b=new;a.f=b;b=1(a);}{b=p.f;a=new;b.f=a;}", 2, 1);
    }

    private static void leaks(String text, int methods, int want) {
        KeptInside k = Check.read(text, methods);
        Check.due("run(0) of " + text, k.run(0), 0);
        Check.due("run(5) of " + text, k.run(5), want);
    }

    private static void ran() {
        KeptInside k = Check.read("{a=new;b=1(a);b=1(b);lock b;lock a;}{r=new;lock p;a=new;lock r;lock r;}{a=new;}", 3);
        int[][] want = {{1, 0, 2}, {2, 2, 6}, {2, 0, 0}, {0, 0, 0}};
        for (int s = 0; s < want.length; s++) {
            for (int what = 0; what < 3; what++) {
                Check.due("ran(" + s + ", " + what + ")", k.ran(s, what), want[s][what]);
            }
        }
        Check.due("ran(4, 0)", k.ran(4, 0), BAD);
        Check.due("ran(-1, 0)", k.ran(-1, 0), BAD);
        Check.due("ran(0, 3)", k.ran(0, 3), BAD);
        Check.due("ran(0, -1)", k.ran(0, -1), BAD);
    }

    private static void held() {
        Check.due("held()", Check.read("{a=new;b=new;G=a;G=b;}", 1).held(), 1);
        Check.due("held(), nothing again", Check.read("{a=new;G=a;G=b;}", 1).held(), NONE);
        Check.due("held(), by another METHOD", Check.read("{b=new;a=1(b);}{a=new;G=a;}", 2).held(), 1);
        Check.due("held(), FAILED", Check.read("{a=new;G=a;lock b;G=b;}", 1).held(), 0);
        Check.due("held(), not what it MAY hold", Check.read("{G=a;a=new;}", 1).held(), NONE);
    }

    private static void back() {
        KeptInside k = Check.read("{a=new;b=new;G=a;lock b;}", 1);
        long read = k.digest();
        k.drops(0, 2);
        k.swaps(0, 0);
        Check.due("open()", k.open(), 0);
        Check.due("back() of swaps", k.back(), 2);
        Check.due("LINE 0", k.line(0, 0, 1), 1);
        Check.due("back() of drops", k.back(), 1);
        Check.due("open() again", k.open(), 1);
        Check.due("held() again", k.held(), 0);
        Check.due("all is as it was", k.digest(), read);
        Check.due("back() of reads", k.back(), 0);
        Check.told("THE TEXT stays", k, 0, 0, 0, 25, 0, 0, 0);
        Check.due("back(), none", k.back(), NO);
        Check.due("how often NO", k.told(1), 1);
        // five at most
        KeptInside five = Check.read("{a=new;b=new;}", 1);
        for (int n = 2; n <= 9; n++) {
            five.swaps(0, 0);
            Check.due("STATES", five.told(6), Math.min(n, 5));
        }
        five.drops(0, 0);
        for (int n = 4; n >= 0; n--) {
            Check.due("back() to " + n, five.back(), n);
            Check.due("LINE 0 then", five.line(0, 0, 1), n % 2 == 0 ? 1 : 2);
        }
        Check.due("back(), older ones lost", five.back(), NO);
        Check.due("METHODS", five.told(4), 1);
        // each of the five is another one
        KeptInside eight = Check.read("{a=new;b=p;r.f=a;p=b.f;G=r;a=G;lock b;r=new;}", 1);
        for (int left = 7; left >= 0; left--) {
            Check.due("drops() to " + left, eight.drops(0, 0), left);
        }
        for (int lines = 1; lines <= 5; lines++) {
            Check.due("back() to LINES " + lines, eight.back(), 5 - lines);
            Check.due("LINES", eight.of(0, 0), lines);
            Check.due("SORT of the last", eight.line(0, lines - 1, 0), 0);
            Check.due("SORT of the first", eight.line(0, 0, 0), (8 - lines) % 7);
        }
        // what is refused leaves none
        five.drops(7, 7);
        five.swaps(0, 1);
        Check.due("STATES still", five.told(6), 0);
    }

    private static void told() {
        KeptInside k = Check.read("{a=new;}{b=new;r=new;}", 2);
        Check.told("told", k, 0, 0, 0, 22, 2, 3, 1);
        Check.due("told(7)", k.told(7), BAD);
        Check.due("told(-1)", k.told(-1), BAD);
        Check.told("told", k, 2, 0, 0, 22, 2, 3, 1);
    }

    private static void digest() {
        long h = 2503;
        for (int n = 0; n < 14; n++) {
            h = 31 * h;
        }
        Check.due("digest() of a new one", new KeptInside().digest(), 31 * h - 1);
        KeptInside k = Check.read("{a=new;G=a;}", 1);
        int[] values = {0, 0, 0, 12, 1, 1, 1, 2, 1, 0, 0, 0, 0, 1, 0, 0, 0, 1, -1, -1, 0, 4, 1, -1, -1, -1,
            0, 0, 2, 0, 1, 1, 0, 1, 0, 1, 0, 0, 1, 1, 0};
        long want = 2503;
        for (int v : values) {
            want = 31 * want + v;
        }
        Check.due("digest()", k.digest(), want);
        Check.due("digest() again", k.digest(), want);
    }

    private static void refusals() {
        KeptInside k = Check.read("{a=new;b=a;}{r=new;}", 2);
        int refused = 0;
        for (int wild : WILD) {
            Check.due("wild type", k.type(wild), BAD);
            Check.due("wild drops", k.drops(wild, 0) + k.drops(0, wild), 2 * BAD);
            Check.due("wild swaps", k.swaps(wild, 0) + k.swaps(0, wild), 2 * BAD);
            Check.due("wild of", k.of(wild, 0) + k.of(0, wild), 2 * BAD);
            Check.due("wild line", k.line(wild, 0, 0) + k.line(0, wild, 0) + k.line(0, 0, wild), 3 * BAD);
            Check.due("wild site", k.site(wild, 0) + k.site(0, wild), 2 * BAD);
            Check.due("wild may", k.may(wild, 0) + k.may(0, wild), 2 * BAD);
            Check.due("wild reached", k.reached(wild, 0) + k.reached(0, wild), 2 * BAD);
            Check.due("wild fates", k.fates(wild), BAD);
            Check.due("wild run", k.run(wild), BAD);
            Check.due("wild ran", k.ran(wild, 0) + k.ran(0, wild), 2 * BAD);
            Check.due("wild told", k.told(wild), BAD);
            Check.due("two wild ones are one refusal", k.line(wild, wild, wild), BAD);
            refused += 22;
        }
        Check.told("refused, and nothing else", k, refused, 0, 0, 20, 2, 2, 1);
    }
}
