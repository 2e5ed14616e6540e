/** Promises 1 to 6 and 17: a new object, and the calls that change it. */
final class BoundsOfChanges {
    private static final int BAD = KeptInside.BAD, NO = KeptInside.NO, FULL = KeptInside.FULL, NONE = KeptInside.NONE;

    /** METHODS of 3, 0 and 2 LINES. */
    private static final String UNEVEN = "{a=new;lock a;b=new;}{}{r=p;r=new;}";
    private static final int[] UNEVEN_LINES = {3, 0, 2};
    private static final String FULLEST = "{a=new;b=new;p=new;r=new;a=new;b=new;p=new;r=new;}".repeat(4);

    private BoundsOfChanges() {
    }

    static void all() {
        promise1NewObject();
        promise2TypeAByte();
        promise2TypeBad();
        promise2TypeFull200();
        promise3Clear();
        promise4Reads();
        promise4ReadsS();
        promise4ReadsFault();
        promise5Drops();
        promise5DropsS();
        promise5DropsBad();
        promise6Swaps();
        promise6SwapsS();
        promise6SwapsBad();
        promise17Back();
        promise17BackNo();
        the512thCall();
    }

    static boolean isLine(int[] lines, int m, int i) {
        return m >= 0 && m < lines.length && i >= 0 && i < lines[m];
    }

    private static void promise1NewObject() {
        Sentences.test("Promise 1", "As told; no METHODS.");
        KeptInside k = new KeptInside();
        Check.told("new", k, 0, 0, 0, 0, 0, 0, 0);
        Check.due("open()", k.open(), 0);
        Check.due("held()", k.held(), NONE);
        for (int what = 0; what < 6; what++) {
            Check.due("run(" + what + ")", k.run(what), 0);
        }
        for (int fate = 0; fate < 3; fate++) {
            Check.due("fates(" + fate + ")", k.fates(fate), 0);
        }
        Check.due("clear()", new KeptInside().clear(), 0);
        Check.due("reads()", new KeptInside().reads(), 0);
        Check.due("back()", new KeptInside().back(), NO);
        Check.due("type()", new KeptInside().type('{'), 1);
        Check.due("drops(0, 0)", k.drops(0, 0), BAD);
        Check.due("swaps(0, 0)", k.swaps(0, 0), BAD);
        Check.due("of(0, 0)", k.of(0, 0), BAD);
        Check.due("line(0, 0, 0)", k.line(0, 0, 0), BAD);
        Check.due("site(0, 0)", k.site(0, 0), BAD);
        Check.due("may(0, 0)", k.may(0, 0), BAD);
        Check.due("reached(0, 0)", k.reached(0, 0), BAD);
        Check.due("ran(0, 0)", k.ran(0, 0), BAD);
        // one object has nothing of another one
        KeptInside other = Check.read("{a=new;G=a;}", 1);
        Check.told("another one stays as it was", k, 8, 0, 0, 0, 0, 0, 0);
        Check.due("held() of the other one", other.held(), 0);
        Check.due("held()", k.held(), NONE);
    }

    private static void promise2TypeAByte() {
        Sentences.test("Promise 2", "A byte (0 .. 127) comes behind THE TEXT: how many it has.");
        KeptInside k = new KeptInside();
        for (int c = 0; c <= 127; c++) {
            Check.due("type(" + c + ")", k.type(c), c + 1);
        }
        Check.told("all 128", k, 0, 0, 0, 128, 0, 0, 0);
        // behind, not ahead
        KeptInside order = new KeptInside();
        order.type('{');
        order.type('!');
        order.type('}');
        Check.due("reads()", order.reads(), -10 - 1);
    }

    private static void promise2TypeBad() {
        Sentences.test("Promise 2", "BAD;");
        Numbers.tryAll("type", "", 1, (k, n) -> k.type(n[0]), n -> n[0] >= 0 && n[0] <= 127);
        Numbers.tryAll("type", UNEVEN, 1, (k, n) -> k.type(n[0]), n -> n[0] >= 0 && n[0] <= 127);
    }

    private static void promise2TypeFull200() {
        Sentences.test("Promise 2", "FULL: 200.");
        KeptInside k = new KeptInside();
        for (int n = 1; n <= 200; n++) {
            Check.due("type() number " + n, k.type('a'), n);
        }
        for (int n = 1; n <= 3; n++) {
            Check.due("type() when full", k.type('a'), FULL);
            Check.told("full", k, 0, 0, n, 200, 0, 0, 0);
        }
        Check.due("clear()", k.clear(), 200);
        Check.due("type() then", k.type('a'), 1);
    }

    private static void promise3Clear() {
        Sentences.test("Promise 3", "THE TEXT is empty: how many it had.");
        for (int length : new int[] {0, 1, 2, 199, 200}) {
            KeptInside k = new KeptInside();
            Check.typeAll(k, "!".repeat(length));
            Check.due("clear() of " + length, k.clear(), length);
            Check.due("bytes", k.told(3), 0);
            Check.due("clear() again", k.clear(), 0);
            Check.due("reads() of an empty TEXT", k.reads(), 0);
        }
        KeptInside k = Check.read("{a=new;}", 1);
        k.swaps(0, 0);
        Check.due("clear()", k.clear(), 8);
        Check.told("METHODS, STATES and how often refused stay", k, 1, 0, 0, 0, 1, 1, 1);
        Check.typeAll(k, "{}{}");
        Check.due("reads() of the new TEXT alone", k.reads(), 2);
    }

    private static void promise4Reads() {
        Sentences.test("Promise 4", "METHODS become those of THE TEXT (which stays): how many.");
        for (int count = 0; count <= 4; count++) {
            KeptInside k = Check.read("{b=new;}".repeat(count), count);
            Check.told("read", k, 0, 0, 0, 8 * count, count, count, 1);
            k.type(' ');
            Check.due("reads() with a blank more", k.reads(), count);
            Check.told("THE TEXT stays", k, 0, 0, 0, 8 * count + 1, count, count, 2);
        }
        KeptInside k = Check.read("{a=new;G=a;}{b=new;}", 2);
        k.clear();
        Check.typeAll(k, "{lock b;}");
        Check.due("reads() of another TEXT", k.reads(), 1);
        Check.told("nothing is left of the first", k, 0, 0, 0, 9, 1, 0, 2);
        Check.due("LINES", k.of(0, 0), 1);
        Check.due("SORT", k.line(0, 0, 0), 6);
        Check.due("METHOD 1", k.of(1, 0), BAD);
        k.drops(0, 0);
        Check.due("reads() of what was dropped", k.reads(), 1);
        Check.due("LINES", k.of(0, 0), 1);
        Check.read(FULLEST, 4);
    }

    private static void promise4ReadsS() {
        Sentences.test("Promise 4", "S.");
        KeptInside k = new KeptInside();
        Check.typeAll(k, "{a=new;}");
        for (int n = 1; n <= 7; n++) {
            Check.due("reads()", k.reads(), 1);
            Check.due("STATES", k.told(6), Math.min(n, 5));
        }
        KeptInside one = Check.read("{a=new;}", 1);
        Check.due("back()", one.back(), 0);
        Check.told("back to no METHODS", one, 0, 0, 0, 8, 0, 0, 0);
    }

    private static void promise4ReadsFault() {
        Sentences.test("Promise 4", "-10 less the FAULT: all stays.");
        KeptInside k = Check.read("{a=new;G=a;lock a;}{b=new;}", 2);
        k.swaps(0, 1);
        k.clear();
        for (int place : new int[] {0, 1, 99, 199}) {
            k.clear();
            Check.typeAll(k, " ".repeat(place) + "!");
            long before = k.digest();
            Check.due("reads(), FAULT " + place, k.reads(), -10 - place);
            Check.due("all stays", k.digest(), before);
        }
        KeptInside longest = Check.read("{a=new;}", 1);
        longest.clear();
        Check.typeAll(longest, "{" + " ".repeat(199));
        long before = longest.digest();
        Check.due("reads(), FAULT 200", longest.reads(), -210);
        Check.due("all stays", longest.digest(), before);
        Check.due("back() goes behind the METHODS that stayed", longest.back(), 0);
        Check.due("METHODS", longest.told(4), 0);
    }

    private static void promise5Drops() {
        Sentences.test("Promise 5", "A LINE of a METHOD goes (those behind it are one nearer): how many it has left.");
        String lines = "a=new;b=p;r.f=a;p=b.f;G=r;a=G;lock b;r=3(p);";
        for (int m = 0; m < 3; m++) {
            String text = "{r=b;}".repeat(m) + "{" + lines + "}" + "{r=b;}".repeat(3 - m);
            for (int i = 0; i < 8; i++) {
                KeptInside k = Check.read(text, 4);
                Check.due("drops(" + m + ", " + i + ")", k.drops(m, i), 7);
                for (int j = 0; j < 7; j++) {
                    Check.due("SORT of LINE " + j, k.line(m, j, 0), j < i ? j : j + 1);
                }
                Check.due("LINE 7", k.line(m, 7, 0), BAD);
                for (int other = 0; other < 4; other++) {
                    Check.due("LINES of METHOD " + other, k.of(other, 0), other == m ? 7 : 1);
                }
            }
        }
        KeptInside k = Check.read("{" + lines + "}{b=new;}{}{}", 4);
        for (int left = 7; left >= 0; left--) {
            Check.due("drops() to " + left, k.drops(0, left), left);
        }
        Check.due("METHODS stay", k.told(4), 4);
        Check.due("the SITE of METHOD 1 is the first one now", k.line(1, 0, 4), 0);
        Check.due("its METHOD", k.site(0, 0), 1);
    }

    private static void promise5DropsS() {
        Sentences.test("Promise 5", "S.");
        KeptInside k = Check.read("{a=new;b=a;}", 1);
        Check.due("drops()", k.drops(0, 0), 1);
        Check.due("STATES", k.told(6), 2);
        Check.due("drops() of the last", k.drops(0, 0), 0);
        Check.due("STATES", k.told(6), 3);
        Check.due("drops(), none left", k.drops(0, 0), BAD);
        Check.due("STATES", k.told(6), 3);
        Check.due("back()", k.back(), 2);
        Check.due("LINES", k.of(0, 0), 1);
        Check.due("SORT of LINE 0", k.line(0, 0, 0), 1);
        Check.due("back()", k.back(), 1);
        Check.due("LINES", k.of(0, 0), 2);
        Check.due("SORT of LINE 0", k.line(0, 0, 0), 0);
        Check.due("SITES", k.told(5), 1);
    }

    private static void promise5DropsBad() {
        Sentences.test("Promise 5", "BAD.");
        Numbers.tryAll("drops", "", 2, (k, n) -> k.drops(n[0], n[1]), n -> false);
        Numbers.tryAll("drops", UNEVEN, 2, (k, n) -> k.drops(n[0], n[1]), n -> isLine(UNEVEN_LINES, n[0], n[1]));
        Numbers.tryAll("drops", FULLEST, 2, (k, n) -> k.drops(n[0], n[1]), n -> isLine(new int[] {8, 8, 8, 8}, n[0], n[1]));
    }

    private static void promise6Swaps() {
        Sentences.test("Promise 6", "LINES i and i + 1 of a METHOD change places: 1.");
        String lines = "a=new;b=p;r.f=a;p=b.f;G=r;a=G;lock b;r=3(p);";
        for (int m = 0; m < 3; m++) {
            String text = "{r=b;}".repeat(m) + "{" + lines + "}" + "{r=b;}".repeat(3 - m);
            for (int i = 0; i < 7; i++) {
                KeptInside k = Check.read(text, 4);
                Check.due("swaps(" + m + ", " + i + ")", k.swaps(m, i), 1);
                for (int j = 0; j < 8; j++) {
                    int want = j == i ? i + 1 : j == i + 1 ? i : j;
                    Check.due("SORT of LINE " + j, k.line(m, j, 0), want);
                }
                for (int other = 0; other < 4; other++) {
                    Check.due("LINES of METHOD " + other, k.of(other, 0), other == m ? 8 : 1);
                }
            }
        }
        KeptInside k = Check.read("{a=new;lock a;b=new;}", 1);
        k.swaps(0, 0);
        Check.due("the SITE goes with its LINE", k.site(0, 1), 1);
        Check.due("a RUN goes by the new places", k.run(0), 1);
        k.swaps(0, 0);
        Check.due("changed back", k.run(0), 0);
    }

    private static void promise6SwapsS() {
        Sentences.test("Promise 6", "S.");
        KeptInside k = Check.read("{a=new;b=a;}", 1);
        Check.due("swaps()", k.swaps(0, 0), 1);
        Check.due("STATES", k.told(6), 2);
        Check.due("swaps(), refused", k.swaps(0, 1), BAD);
        Check.due("STATES", k.told(6), 2);
        Check.due("back()", k.back(), 1);
        Check.due("SORT of LINE 0", k.line(0, 0, 0), 0);
        Check.due("SORT of LINE 1", k.line(0, 1, 0), 1);
    }

    private static void promise6SwapsBad() {
        Sentences.test("Promise 6", "BAD: there is no LINE i + 1, too.");
        for (int count = 0; count <= 8; count++) {
            String text = "{" + "a=b;".repeat(count) + "}{a=b;a=b;}";
            for (int i : new int[] {Numbers.LEAST, -2, -1, 0, count - 2, count - 1, count, 7, 8, Numbers.MOST - 1, Numbers.MOST}) {
                KeptInside k = Check.read(text, 2);
                Check.due("swaps(0, " + i + ") of " + count, k.swaps(0, i), i >= 0 && i + 1 < count && i < 8 ? 1 : BAD);
            }
        }
        Numbers.tryAll("swaps", "", 2, (k, n) -> k.swaps(n[0], n[1]), n -> false);
        Numbers.tryAll("swaps", UNEVEN, 2, (k, n) -> k.swaps(n[0], n[1]), n -> isLine(new int[] {2, 0, 1}, n[0], n[1]));
        Numbers.tryAll("swaps", FULLEST, 2, (k, n) -> k.swaps(n[0], n[1]), n -> isLine(new int[] {7, 7, 7, 7}, n[0], n[1]));
    }

    private static void promise17Back() {
        Sentences.test("Promise 17", "A STATE back: how many can be yet.");
        KeptInside k = Check.read("{a=new;b=new;G=a;lock b;}", 1);
        long read = k.digest();
        k.drops(0, 2);
        long dropped = k.digest();
        k.swaps(0, 0);
        Check.due("back() of swaps", k.back(), 2);
        Check.due("all is as it was", k.digest(), dropped);
        Check.due("back() of drops", k.back(), 1);
        Check.due("all is as it was", k.digest(), read);
        Check.due("back() of reads", k.back(), 0);
        Check.told("METHODS of a new one, THE TEXT stays", k, 0, 0, 0, 25, 0, 0, 0);
        // what was taken back is gone: the next change goes on from here
        KeptInside on = Check.read("{a=new;b=a;G=b;}", 1);
        on.drops(0, 2);
        on.drops(0, 1);
        Check.due("back()", on.back(), 2);
        Check.due("drops() of another one", on.drops(0, 0), 1);
        Check.due("STATES", on.told(6), 3);
        Check.due("SORT of LINE 0", on.line(0, 0, 0), 1);
        Check.due("back()", on.back(), 2);
        Check.due("SORT of LINE 0", on.line(0, 0, 0), 0);
        Check.due("back()", on.back(), 1);
        Check.due("LINES", on.of(0, 0), 3);
        // STATES that were lost stay so, and there is room again
        KeptInside round = Check.read("{a=new;b=new;}", 1);
        for (int n = 0; n < 6; n++) {
            round.swaps(0, 0);
        }
        Check.due("back() of five", round.back(), 4);
        round.swaps(0, 0);
        Check.due("STATES", round.told(6), 5);
        for (int n = 4; n >= 0; n--) {
            Check.due("back()", round.back(), n);
        }
        Check.due("back(), none", round.back(), NO);
        Check.due("METHODS", round.told(4), 1);
    }

    private static void promise17BackNo() {
        Sentences.test("Promise 17", "NO: none.");
        KeptInside k = new KeptInside();
        Check.due("back() of a new one", k.back(), NO);
        Check.typeAll(k, "{a=new;}");
        Check.due("back() behind type()", k.back(), NO);
        k.reads();
        Check.due("back() of the only one", k.back(), 0);
        Check.due("back(), none left", k.back(), NO);
        Check.due("back(), none left", k.back(), NO);
        Check.told("four times", k, 0, 4, 0, 8, 0, 0, 0);
        Check.due("reads()", k.reads(), 1);
        k.clear();
        k.type('}');
        Check.due("reads() with a FAULT", k.reads(), -10);
        Check.due("drops(), refused", k.drops(0, 1), BAD);
        Check.due("back(), one there", k.back(), 0);
        Check.due("back(), none", k.back(), NO);
    }

    private static void the512thCall() {
        Sentences.test("What it is", "An object is used for at most 512 calls after it has been made;");
        KeptInside k = new KeptInside();
        Check.typeAll(k, FULLEST);
        for (int call = 201; call <= 510; call++) {
            Check.due("reads(), call " + call, k.reads(), 4);
        }
        Check.due("back(), call 511", k.back(), 4);
        Check.due("may(3, 3), call 512", k.may(3, 3), 1 << 31 | 1 << 27);
        KeptInside refused = new KeptInside();
        for (int call = 1; call <= 511; call++) {
            Check.due("told(7), call " + call, refused.told(7), BAD);
        }
        Check.due("told(0), call 512", refused.told(0), 511);
    }
}
