/** Terms: STATES, 5 at most; what is refused, and in which order: BAD, NO, FULL. */
final class BoundsOfStates {
    private static final int BAD = KeptInside.BAD, NO = KeptInside.NO, FULL = KeptInside.FULL;

    private BoundsOfStates() {
    }

    static void all() {
        eachCallToldSLeavesOne();
        alsoIfNothingChanges();
        toGoBackToMethods();
        fiveAtMostOlderOnesLost();
        refusedChangesNothingButHowOften();
        theFirstOfBadNoFull();
        byATextAndItsFaultNothingCounts();
    }

    private static void eachCallToldSLeavesOne() {
        Sentences.test("Terms", "STATES: each call told S, if it is not refused, leaves one,");
        KeptInside k = new KeptInside();
        Check.due("STATES of a new one", k.told(6), 0);
        Check.typeAll(k, "{a=new;b=a;lock b;}");
        Check.due("type() leaves none", k.told(6), 0);
        k.reads();
        Check.due("reads() leaves one", k.told(6), 1);
        k.drops(0, 2);
        Check.due("drops() leaves one", k.told(6), 2);
        k.swaps(0, 0);
        Check.due("swaps() leaves one", k.told(6), 3);
        k.drops(0, 2);
        k.drops(1, 0);
        k.swaps(0, 1);
        k.swaps(-1, 0);
        Check.due("refused ones leave none", k.told(6), 3);
        k.clear();
        k.type('{');
        k.type(200);
        k.reads();
        Check.due("a FAULT leaves none", k.told(6), 3);
        questions(k);
        Check.due("questions leave none", k.told(6), 3);
        k.back();
        Check.due("back() takes one and leaves none", k.told(6), 2);
    }

    private static void questions(KeptInside k) {
        for (int what = 0; what < 3; what++) {
            k.of(0, what);
            k.line(0, 0, what);
            k.site(0, what);
            k.may(0, what);
            k.reached(0, what);
            k.fates(what);
            k.run(what);
            k.ran(0, what);
            k.told(what);
        }
        k.open();
        k.held();
        k.digest();
    }

    private static void alsoIfNothingChanges() {
        Sentences.test("Terms", "also if nothing changes by it,");
        KeptInside empty = new KeptInside();
        for (int n = 1; n <= 3; n++) {
            Check.due("reads() of nothing", empty.reads(), 0);
            Check.due("STATES", empty.told(6), n);
        }
        for (int n = 2; n >= 0; n--) {
            Check.due("back()", empty.back(), n);
        }
        KeptInside same = Check.read("{a=b;a=b;}", 1);
        Check.due("swaps() of two alike", same.swaps(0, 0), 1);
        Check.due("STATES", same.told(6), 2);
        Check.due("reads() of the same", same.reads(), 1);
        Check.due("STATES", same.told(6), 3);
        Check.due("back()", same.back(), 2);
        Check.due("back()", same.back(), 1);
        Check.due("LINES", same.of(0, 0), 2);
    }

    private static void toGoBackToMethods() {
        Sentences.test("Terms", "to go back to (METHODS),");
        KeptInside k = Check.read("{a=new;G=a;lock a;}{b=new;}", 2);
        int length = 27;
        Check.due("drops()", k.drops(0, 1), 2);
        Check.due("type()", k.type('!'), length + 1);
        Check.due("of(9, 9)", k.of(9, 9), BAD);
        Check.due("back()", k.back(), 1);
        Check.told("METHODS are back; THE TEXT and how often refused are not", k, 1, 0, 0, length + 1, 2, 2, 1);
        Check.due("LINE 1 again", k.line(0, 1, 0), 4);
        Check.due("open() again", k.open(), 1);
        Check.due("held() again", k.held(), 0);
        Check.due("a STATE left behind back()", k.swaps(0, 0), 1);
        Check.due("goes back to the METHODS ahead of it", k.back(), 1);
        Check.due("LINE 0 again", k.line(0, 0, 0), 0);
    }

    private static void fiveAtMostOlderOnesLost() {
        Sentences.test("Terms", "5 at most, older ones lost.");
        for (int changes = 0; changes <= 8; changes++) {
            KeptInside k = new KeptInside();
            for (int n = 1; n <= changes; n++) {
                k.clear();
                Check.typeAll(k, "{" + "a=b;".repeat(n - 1) + "}");
                Check.due("reads()", k.reads(), 1);
            }
            int kept = Math.min(changes, 5);
            Check.due("STATES behind " + changes, k.told(6), kept);
            for (int n = 1; n <= kept; n++) {
                Check.due("back() number " + n + " of " + changes, k.back(), kept - n);
                Check.due("METHODS", k.told(4), changes - n > 0 ? 1 : 0);
                Check.due("LINES", k.of(0, 0), changes - n > 0 ? changes - n - 1 : BAD);
            }
            Check.due("back(), none left of " + changes, k.back(), NO);
            Check.due("METHODS stay", k.told(4), changes - kept > 0 ? 1 : 0);
        }
    }

    private static void refusedChangesNothingButHowOften() {
        Sentences.test("Terms", "Refused (a question, too), changing nothing but how often,");
        KeptInside k = Check.read("{a=new;b=a;lock b;r=1(b);}{G=p;}", 2);
        long h = k.digest();
        int[] bads = {k.type(-1), k.drops(2, 0), k.swaps(0, 3), k.of(2, 0), k.line(1, 1, 0), k.site(1, 0), k.may(0, 4),
            k.reached(2, 0), k.fates(3), k.run(6), k.ran(1, 0), k.told(7)};
        for (int n = 0; n < bads.length; n++) {
            Check.due("refused call " + n, bads[n], BAD);
        }
        Check.told("each counted once", k, bads.length, 0, 0, 32, 2, 1, 1);
        // told(0) is the first of all that goes into the digest
        int behind = 6 + (5 + 4) * 2 + 5 * 5 + 7 + 1 + 6 + 1;
        long times = bads.length;
        for (int n = 0; n < behind; n++) {
            times *= 31;
        }
        Check.due("nothing else", k.digest(), h + times);
        KeptInside none = new KeptInside();
        for (int n = 1; n <= 3; n++) {
            Check.due("back()", none.back(), NO);
            Check.told("NO is counted", none, 0, n, 0, 0, 0, 0, 0);
        }
        KeptInside full = new KeptInside();
        Check.typeAll(full, " ".repeat(200));
        for (int n = 1; n <= 3; n++) {
            Check.due("type()", full.type('{'), FULL);
            Check.told("FULL is counted", full, 0, 0, n, 200, 0, 0, 0);
        }
    }

    private static void theFirstOfBadNoFull() {
        Sentences.test("Terms", "the first of: BAD -2 a number is not as told; NO -3 as told; FULL -4 as told.");
        Check.due("BAD", BAD, -2);
        Check.due("NO", NO, -3);
        Check.due("FULL", FULL, -4);
        Check.due("NONE", KeptInside.NONE, -1);
        KeptInside k = new KeptInside();
        Check.typeAll(k, " ".repeat(200));
        int bad = 0;
        for (int c : new int[] {Numbers.LEAST, -1, 128, 200, Numbers.MOST}) {
            Check.due("full, type(" + c + ")", k.type(c), BAD);
            bad++;
            Check.told("BAD alone is counted", k, bad, 0, 0, 200, 0, 0, 0);
        }
        int full = 0;
        for (int c : new int[] {0, 1, 126, 127}) {
            Check.due("full, type(" + c + ")", k.type(c), FULL);
            full++;
            Check.told("FULL alone is counted", k, bad, 0, full, 200, 0, 0, 0);
        }
        Check.due("full, back()", k.back(), NO);
        Check.told("NO alone is counted", k, bad, 1, full, 200, 0, 0, 0);
        KeptInside two = Check.read("{a=new;}", 1);
        Check.due("three numbers that are wrong", two.line(9, 9, 9), BAD);
        Check.due("are one refusal", two.told(0), 1);
    }

    private static void byATextAndItsFaultNothingCounts() {
        Sentences.test("Terms", "By what THE TEXT tells, by a FAULT of it nothing counts.");
        String[] wrong = {"}", "{", "{a", "{}{}{}{}{}", "{a=0(a);}", "{a=4(a);}", "{a=1(a);}", "{a=b;a=b;a=b;a=b;a=b;a=b;a=b;a=b;a=b;}"};
        for (String text : wrong) {
            KeptInside k = new KeptInside();
            Check.typeAll(k, text);
            for (int n = 0; n < 3; n++) {
                Check.due("reads() has a FAULT", k.reads() <= -10 ? 1 : 0, 1);
                Check.told("FAULT of " + text, k, 0, 0, 0, text.length(), 0, 0, 0);
            }
        }
        KeptInside failing = Check.read("{lock a;}", 1);
        Check.due("a RUN that FAILS", failing.run(0), 1);
        Check.told("is no refusal", failing, 0, 0, 0, 9, 1, 0, 1);
    }
}
