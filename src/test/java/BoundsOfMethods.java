/** Terms: METHODS 0 .. 3, LINES 0 .. 7, NAMES 0 .. 3, SORTS 0 .. 7, SITES 32 at most. */
final class BoundsOfMethods {
    private static final int BAD = KeptInside.BAD, NONE = KeptInside.NONE;

    private BoundsOfMethods() {
    }

    static void all() {
        methods0To3EachWithNames0To3OfItsOwn();
        oneOpenPlaceForAll();
        lines0To7AsTheyCome();
        sorts0To7();
        calledMethodIsOfAGreaterNumberAndThere();
        sitesNumberedByMethodsThenLines32AtMost();
    }

    private static void methods0To3EachWithNames0To3OfItsOwn() {
        Sentences.test("Terms", "3, each with NAMES p, a, b, r (0 .. 3) of its own;");
        int[] numbers = {Numbers.LEAST, -1, 0, 1, 2, 3, 4, 5, Numbers.MOST};
        for (int count = 0; count <= 4; count++) {
            KeptInside k = Check.read("{}".repeat(count), count);
            Check.due("METHODS", k.told(4), count);
            for (int m : numbers) {
                Check.due(count + " METHODS, of(" + m + ", 0)", k.of(m, 0), m >= 0 && m < count ? 0 : BAD);
            }
        }
        Check.fault("{}{}{}{}{}", 8);
        KeptInside k = Check.read("{p=new;}{a=new;}{b=new;}{r=new;}", 4);
        for (int m = 0; m < 4; m++) {
            Check.due("x of METHOD " + m, k.line(m, 0, 1), m);
            for (int x : numbers) {
                int own = x == m ? 1 << m : 0;
                Check.due("may(" + m + ", " + x + ")", k.may(m, x), x >= 0 && x < 4 ? own : BAD);
            }
        }
        KeptInside run = Check.read("{a=new;b=a;r=1(a);G=a;}{p=new;a=new;b=new;r=new;}", 2);
        Check.due("what METHOD 0 has in a is not touched by METHOD 1", run.held(), 0);
    }

    private static void oneOpenPlaceForAll() {
        Sentences.test("Terms", "one OPEN place G for all.");
        KeptInside down = Check.read("{a=new;G=a;b=1(b);lock b;}{r=G;}", 2);
        Check.due("MAY: what METHOD 0 puts, METHOD 1 takes", down.may(1, 3), 1);
        Check.due("RUN: so, too", down.ran(0, 2), 1);
        KeptInside up = Check.read("{b=1(b);a=G;lock a;}{a=new;G=a;}", 2);
        Check.due("MAY: what METHOD 1 puts, METHOD 0 takes", up.may(0, 1), 1);
        Check.due("RUN: so, too", up.ran(0, 2), 1);
        KeptInside last = Check.read("{a=new;G=a;b=1(b);}{a=new;G=a;b=2(b);}{a=new;G=a;b=3(b);}{a=new;G=a;}", 4);
        Check.due("MAY G has what all METHODS put", last.open(), 0b1111);
        Check.due("it holds one THING, the last one put", last.held(), 3);
    }

    private static void lines0To7AsTheyCome() {
        Sentences.test("Terms", "LINES 0 .. 7 of a METHOD, as they come, of SORTS (x, y NAMES):");
        int[] numbers = {Numbers.LEAST, -1, 0, 1, 2, 3, 4, 5, 6, 7, 8, 9, Numbers.MOST};
        for (int m = 0; m < 4; m++) {
            for (int count = 0; count <= 8; count++) {
                KeptInside k = Check.read("{}".repeat(m) + "{" + "a=b;".repeat(count) + "}", m + 1);
                Check.due("LINES of METHOD " + m, k.of(m, 0), count);
                for (int i : numbers) {
                    Check.due(count + " LINES, line(" + m + ", " + i + ", 0)", k.line(m, i, 0), i >= 0 && i < count ? 1 : BAD);
                }
            }
            Check.fault("{}".repeat(m) + "{" + "a=b;".repeat(9) + "}", 2 * m + 33);
        }
        KeptInside k = Check.read("{r=1(p);lock b;a=G;G=r;p=b.f;r.f=a;b=p;a=new;}{}", 2);
        for (int i = 0; i < 8; i++) {
            Check.due("SORT of LINE " + i, k.line(0, i, 0), 7 - i);
        }
    }

    private static void sorts0To7() {
        Sentences.test("Terms", "0 x = new; 1 x = y; 2 x.f = y; 3 x = y.f; 4 G = x; 5 x = G; 6 lock x; 7 x = m(y),");
        String[] told = {"x=new", "x=y", "x.f=y", "x=y.f", "G=x", "x=G", "lock x", "x=m(y)"};
        String names = "pabr";
        for (int sort = 0; sort < 8; sort++) {
            for (int xy = 0; xy < 16; xy++) {
                for (int callee = 1; callee < 4; callee++) {
                    String line = told[sort].replace('x', names.charAt(xy / 4)).replace('y', names.charAt(xy % 4))
                        .replace("m(", callee + "(");
                    KeptInside k = Check.read("{" + line + ";}{}{}{}", 4);
                    Check.due("SORT of " + line, k.line(0, 0, 0), sort);
                    Check.due("x of " + line, k.line(0, 0, 1), xy / 4);
                    Check.due("y of " + line, k.line(0, 0, 2), told[sort].indexOf('y') < 0 ? NONE : xy % 4);
                    Check.due("the METHOD called by " + line, k.line(0, 0, 3), sort == 7 ? callee : NONE);
                }
            }
        }
    }

    private static void calledMethodIsOfAGreaterNumberAndThere() {
        Sentences.test("Terms", "m being a METHOD of a greater number that is there.");
        for (int caller = 0; caller < 4; caller++) {
            for (int count = caller + 1; count <= 4; count++) {
                for (int called = 0; called <= 9; called++) {
                    String text = "{}".repeat(caller) + "{a=" + called + "(b);}" + "{}".repeat(count - caller - 1);
                    if (called > caller && called < count) {
                        KeptInside k = Check.read(text, count);
                        Check.due("METHODS called in " + text, k.of(caller, 4), 1 << called);
                    } else {
                        Check.fault(text, 2 * caller + 3);
                    }
                }
            }
        }
    }

    private static void sitesNumberedByMethodsThenLines32AtMost() {
        Sentences.test("Terms", "A SITE: a LINE of SORT 0; SITES are numbered from 0 on, by METHODS, then LINES (32 at most).");
        for (int count = 0; count <= 32; count++) {
            StringBuilder text = new StringBuilder();
            for (int m = 0; m < 4; m++) {
                text.append('{').append("a=new;".repeat(Math.max(0, Math.min(8, count - 8 * m)))).append('}');
            }
            KeptInside k = Check.read(text.toString(), 4);
            Check.due("SITES", k.told(5), count);
            for (int s : new int[] {Numbers.LEAST, -1, 0, count - 1, count, count + 1, 31, 32, 33, Numbers.MOST}) {
                boolean there = s >= 0 && s < count;
                Check.due(count + " SITES, site(" + s + ", 0)", k.site(s, 0), there ? s / 8 : BAD);
                Check.due(count + " SITES, site(" + s + ", 1)", k.site(s, 1), there ? s % 8 : BAD);
            }
            for (int s = 0; s < count; s++) {
                Check.due("SITE of LINE " + s % 8 + " of METHOD " + s / 8, k.line(s / 8, s % 8, 4), s);
            }
        }
        KeptInside k = Check.read("{lock a;a=new;b=a;r=new;}{}{G=a;a=G;a.f=b;b=new;a=b.f;b=3(a);}{p=new;}", 4);
        int[][] places = {{0, 1}, {0, 3}, {2, 3}, {3, 0}};
        Check.due("SITES: LINES of SORT 0 alone", k.told(5), places.length);
        for (int s = 0; s < places.length; s++) {
            Check.due("METHOD of SITE " + s, k.site(s, 0), places[s][0]);
            Check.due("LINE of SITE " + s, k.site(s, 1), places[s][1]);
            Check.due("its SITE", k.line(places[s][0], places[s][1], 4), s);
        }
    }
}
