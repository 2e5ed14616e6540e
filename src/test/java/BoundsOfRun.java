/** Terms: a RUN, one that FAILS, one of no METHODS, THINGS that LEAK. */
final class BoundsOfRun {
    private static final int NONE = KeptInside.NONE;

    private BoundsOfRun() {
    }

    static void all() {
        method0IsCalledWithNothing();
        namesHoldNothingAtFirst();
        aNewThingHoldsNothing();
        whereNothingIsHeldTheRunFails();
        allEnds();
        aCallHandsOnAndBack();
        noMethodsNothingHappens();
        leaksWhenTheCallThatMadeItEnds();
        leaksNotByFailing();
        leaksByWhatGHolds();
        leaksByWhatPHeldAtTheBeginning();
        leaksByWhatRHolds();
    }

    private static void held(String text, int want) {
        Check.due("held() of " + text, Check.readAny(text).held(), want);
    }

    private static void leaks(String text, int want) {
        KeptInside k = Check.readAny(text);
        Check.due("run(0) of " + text, k.run(0), 0);
        Check.due("run(5) of " + text, k.run(5), want);
    }

    private static void method0IsCalledWithNothing() {
        Sentences.test("Terms", "======== 2 A RUN: METHOD 0 is CALLED with p nothing.");
        Check.ran("{}", 0, 0, 0, 0, 1, 0);
        Check.ran("{lock p;}", 1, 0, 0, 0, 1, 0);
        Check.ran("{p.f=p;}", 1, 0, 0, 0, 1, 0);
        Check.ran("{a=p.f;}", 1, 0, 0, 0, 1, 0);
        Check.ran("{a=p;G=p;}", 0, 0, 0, 0, 1, 0);
        Check.ran("{}{a=new;lock b;}{a=new;}{a=new;}", 0, 0, 0, 0, 1, 0);
        held("{G=p;}", NONE);
        held("{a=new;G=a;G=p;p=a;}", NONE);
    }

    private static void namesHoldNothingAtFirst() {
        Sentences.test("Terms", "CALLED: a, b, r hold nothing at first; LINES one by one:");
        for (String x : new String[] {"a", "b", "r"}) {
            Check.ran("{lock " + x + ";}", 1, 0, 0, 0, 1, 0);
            held("{p=new;a=1(p);a=1(p);}{G=x;x=new;}".replace("x", x), NONE);
            held("{p=new;a=1(p);a=1(p);}{x=new;G=x;}".replace("x", x), 1);
            held("{p=new;x=p;r=1(p);}{G=x;}".replace("x", x), NONE);
        }
        held("{G=a;a=new;}", NONE);
        held("{a=new;G=a;}", 0);
        held("{a=new;b=a;a=new;G=b;}", 0);
        held("{a=new;b=a;a=new;G=a;}", 1);
    }

    private static void aNewThingHoldsNothing() {
        Sentences.test("Terms", "x = new: a new THING of that SITE, its f holds nothing;");
        Check.ran("{a=new;b=a.f;lock b;}", 1, 1, 0, 0, 1, 0);
        Check.ran("{a=new;b=a.f;G=b;}", 0, 1, 0, 0, 1, 0);
        held("{a=new;b=a.f;G=b;}", NONE);
        held("{b=1(b);b=1(b);}{a=new;b=a.f;G=b;a.f=a;}", NONE);
        // two THINGS of one SITE are two: what one holds the other one does not
        Check.ran("{a=1(b);b=1(b);a.f=b;b=b.f;lock b;}{r=new;}", 1, 2, 0, 0, 3, 2);
        Check.ran("{a=1(b);b=1(b);a.f=b;b=a.f;lock b;}{r=new;}", 0, 2, 1, 0, 3, 2);
    }

    private static void whereNothingIsHeldTheRunFails() {
        Sentences.test("Terms", "x.f, y.f, lock x where x (y) holds nothing: the RUN FAILS,");
        Check.ran("{b=new;a.f=b;}", 1, 1, 0, 0, 1, 0);
        Check.ran("{b=new;b=a.f;}", 1, 1, 0, 0, 1, 0);
        Check.ran("{b=new;lock a;}", 1, 1, 0, 0, 1, 0);
        Check.ran("{b=new;b.f=a;}", 0, 1, 0, 0, 1, 0);
        Check.ran("{b=new;b.f=b;a=b.f;}", 0, 1, 0, 0, 1, 0);
        Check.ran("{b=new;lock b;}", 0, 1, 1, 1, 1, 0);
        Check.ran("{b=new;b=a;lock b;}", 1, 1, 0, 0, 1, 0);
        Check.ran("{b=new;b.f=b;b.f=a;b=b.f;lock b;}", 1, 1, 0, 0, 1, 0);
        Check.ran("{a=b;G=a;a=G;a=1(b);}{r=p;}", 0, 0, 0, 0, 2, 0);
        Check.ran("{a=G;lock a;}", 1, 0, 0, 0, 1, 0);
    }

    private static void allEnds() {
        Sentences.test("Terms", "all ends;");
        // the LINES behind the failing one, of the METHOD and of all that wait for it
        String waiting = "{a=new;b=1(a);a=new;lock a;G=a;}{b=2(p);a=new;lock p;G=p;}{b=3(p);a=new;lock p;G=p;}";
        for (String failing : new String[] {"lock a", "a.f=p", "b=a.f"}) {
            KeptInside k = Check.readAny(waiting + "{" + failing + ";a=new;lock p;G=p;}");
            int[] want = {1, 1, 0, 0, 4, 0};
            for (int what = 0; what < want.length; what++) {
                Check.due("run(" + what + ") that ends by " + failing, k.run(what), want[what]);
            }
            Check.due("held(), ended by " + failing, k.held(), NONE);
        }
        // what was ahead of it stays: made, locked, in G
        KeptInside k = Check.read("{a=new;lock a;G=a;b=1(a);}{a=new;lock a;lock p;lock b;lock p;G=b;}", 2);
        int[] want = {1, 2, 3, 1, 2, 0};
        for (int what = 0; what < want.length; what++) {
            Check.due("run(" + what + ")", k.run(what), want[what]);
        }
        Check.due("held()", k.held(), 0);
        Check.ran("{lock a;b=1(a);}{}", 1, 0, 0, 0, 1, 0);
        Check.ran("{b=1(a);lock a;b=1(a);}{}", 1, 0, 0, 0, 2, 0);
    }

    private static void aCallHandsOnAndBack() {
        Sentences.test("Terms", "x = m(y): m is CALLED, its p holding what y holds; x holds then what r of m holds at its end.");
        held("{a=new;b=new;r=1(b);}{G=p;}", 1);
        held("{a=new;b=new;r=1(r);}{G=p;}", NONE);
        held("{a=new;b=1(a);G=b;}{r=p;}", 0);
        held("{a=new;b=new;b=1(a);G=b;}{a=p;}", NONE);
        held("{b=1(a);G=b;}{r=new;r=new;}", 1);
        held("{a=new;a=1(a);G=a;}{r=new;r.f=p;}", 1);
        held("{a=new;a=1(a);a=a.f;G=a;}{r=new;r.f=p;}", 0);
        held("{a=new;b=1(a);G=a;}{p=new;}", 0);
        held("{a=new;b=1(a);G=b;}{r=2(p);}{r=3(p);}{r=p;}", 0);
        Check.ran("{b=1(a);}{lock p;}", 1, 0, 0, 0, 2, 0);
        Check.ran("{a=1(a);a=2(a);a=3(a);}{a=2(a);a=3(a);}{a=3(a);}{}", 0, 0, 0, 0, 8, 0);
    }

    private static void noMethodsNothingHappens() {
        Sentences.test("Terms", "(No METHODS: nothing happens.)");
        KeptInside fresh = new KeptInside();
        KeptInside empty = Check.read("", 0);
        KeptInside gone = Check.read("{a=new;G=a;lock a;r=a;}", 1);
        Check.due("it was run", gone.held() + gone.run(1) + gone.run(4), 2);
        Check.due("back() to no METHODS", gone.back(), 0);
        for (KeptInside k : new KeptInside[] {fresh, empty, gone}) {
            for (int what = 0; what < 6; what++) {
                Check.due("run(" + what + ")", k.run(what), 0);
            }
            Check.due("held()", k.held(), NONE);
            Check.due("ran(0, 0)", k.ran(0, 0), KeptInside.BAD);
        }
    }

    private static void leaksWhenTheCallThatMadeItEnds() {
        Sentences.test("Terms", "A THING LEAKS, if, when the CALL that made it ends");
        leaks("{a=1(b);G=b;}{r=new;}", 1);
        leaks("{a=1(b);a=b;}{r=new;}", 1);
        leaks("{a=new;G=a;b=1(a);}{G=a;}", 0);
        leaks("{a=1(b);}{a=new;G=a;b=2(b);}{G=a;}", 0);
        leaks("{a=1(b);}{a=new;b=2(a);}{G=p;}", 1);
        leaks("{a=new;b=1(a);}{r=p;}", 0);
        leaks("{a=new;b=1(a);G=b;}{r=p;}", 1);
        leaks("{a=1(a);a=1(a);a=1(a);}{r=new;}", 3);
    }

    private static void leaksNotByFailing() {
        Sentences.test("Terms", "(not by FAILING),");
        Check.ran("{r=new;G=r;}", 0, 1, 0, 0, 1, 1);
        Check.ran("{r=new;G=r;lock a;}", 1, 1, 0, 0, 1, 0);
        Check.ran("{r=1(a);}{r=new;G=r;a=2(a);}{r=new;G=r;lock a;}", 1, 2, 0, 0, 3, 0);
        // a CALL that has ended already ended well
        Check.ran("{r=1(a);}{r=new;G=r;a=2(a);lock b;}{r=new;}", 1, 2, 0, 0, 3, 1);
        Check.ran("{r=1(a);G=r;lock a;}{r=new;}", 1, 1, 0, 0, 2, 1);
    }

    private static void leaksByWhatGHolds() {
        Sentences.test("Terms", "it can be come to, by f's, from what G holds,");
        leaks("{a=new;}", 0);
        leaks("{a=new;G=a;}", 1);
        leaks("{a=new;G=a;G=b;}", 0);
        leaks("{a=new;b=new;p=new;a.f=b;b.f=p;G=a;}", 3);
        leaks("{a=new;b=new;p=new;a.f=b;b.f=p;G=b;}", 2);
        leaks("{a=new;b=new;p=new;a.f=b;b.f=p;G=p;}", 1);
        leaks("{a=new;b=new;p=new;a.f=b;b.f=p;a.f=r;G=a;}", 1);
        leaks("{a=new;b=new;a.f=b;b.f=a;G=a;}", 2);
        leaks("{a=new;a.f=a;G=a;}", 1);
        // a ring is gone round once, whatever else was made
        leaks("{a=new;b=new;p=new;a.f=b;b.f=a;G=a;}", 2);
        leaks("{a=new;b=new;p=new;p=new;a.f=b;b.f=b;G=a;}", 2);
        leaks("{a=new;G=a;b=1(b);}{a=new;b=G;b.f=a;}", 2);
        // a long chain: each CALL of METHOD 3 holds what the one ahead of it made
        leaks("{" + "a=1(a);".repeat(7) + "G=a;}{" + "p=2(p);".repeat(7) + "r=p;}{" + "p=3(p);".repeat(7)
            + "r=p;}{r=new;r.f=p;}", 343);
    }

    private static void leaksByWhatPHeldAtTheBeginning() {
        Sentences.test("Terms", "what p held at that CALL's beginning,");
        leaks("{p=new;}", 0);
        leaks("{a=new;b=1(a);}{a=p;}", 0);
        leaks("{a=new;b=1(a);}{a=new;p.f=a;}", 1);
        leaks("{a=new;b=1(a);}{a=new;p.f=a;p.f=b;}", 0);
        leaks("{a=new;b=1(a);}{a=new;p.f=a;p=new;}", 1);
        leaks("{a=new;b=1(a);}{a=new;b=new;p=b;b.f=a;}", 0);
        leaks("{a=new;b=1(b);}{p=new;a=new;p.f=a;}", 0);
        leaks("{a=new;b=new;a.f=b;b=1(a);}{b=p.f;a=new;b.f=a;}", 1);
        leaks("{a=new;a.f=a;b=1(a);}{a=new;a.f=p;p.f=a;}", 1);
    }

    private static void leaksByWhatRHolds() {
        Sentences.test("Terms", "or what r holds.");
        leaks("{r=new;}", 1);
        leaks("{r=new;r=new;}", 1);
        leaks("{r=new;r=a;}", 0);
        leaks("{a=new;r=new;r.f=a;}", 2);
        leaks("{a=new;r=new;a.f=r;}", 1);
        leaks("{a=new;r=new;r.f=a;a.f=r;}", 2);
        // by all ways at once it LEAKS once
        leaks("{a=new;b=1(a);}{r=new;p.f=r;G=r;}", 1);
        leaks("{a=new;b=1(a);}{r=new;a=new;b=new;p.f=r;G=r;}", 1);
        // r of a METHOD that calls is not r of the one that is called
        leaks("{r=new;a=1(r);r=b;}{a=new;}", 0);
    }
}
