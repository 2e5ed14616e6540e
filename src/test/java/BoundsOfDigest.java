import java.util.ArrayList;
import java.util.List;
import java.util.function.Supplier;
import java.util.function.ToIntFunction;

/**
 * Promise 19. The digest is worked out here from the other answers, each asked of an object of its
 * own that was made alike, as all of them together are more than 512 calls.
 */
final class BoundsOfDigest {
    private static final String SMALL = "{a=new;G=a;}";
    private static final int[] SMALL_TOLD = {0, 0, 0, 12, 1, 1, 1};
    private static final int[] SMALL_METHODS = {2, 1, 0, 0, 0, 0, 1, 0, 0, 0, 1, -1, -1, 0, 4, 1, -1, -1, -1};
    private static final int[] SMALL_SITES = {0, 0, 2, 0, 1, 1, 0};
    private static final int[] SMALL_REST = {1, 0, 1, 0, 0, 1, 1, 0};

    private BoundsOfDigest() {
    }

    static void all() {
        promise19Told();
        promise19Methods();
        promise19Sites();
        promise19Rest();
    }

    private static long add(long h, int... values) {
        long sum = h;
        for (int v : values) {
            sum = 31 * sum + v;
        }
        return sum;
    }

    private static void promise19Told() {
        Sentences.test("Promise 19", "h = 2503; then h = 31 h + v for each v: told(0) to told(6);");
        Check.due("a new one: 7 of told, open, 6 of run, held", new KeptInside().digest(),
            add(2503, 0, 0, 0, 0, 0, 0, 0, 0, 0, 0, 0, 0, 0, 0, -1));
        KeptInside k = new KeptInside();
        k.type('{');
        k.type(-1);
        k.type(-1);
        k.back();
        Check.due("a byte, two BAD, a NO", k.digest(), add(2503, 2, 1, 0, 1, 0, 0, 0, 0, 0, 0, 0, 0, 0, 0, -1));
        Check.due("asked again", k.digest(), add(2503, 2, 1, 0, 1, 0, 0, 0, 0, 0, 0, 0, 0, 0, 0, -1));
        KeptInside full = new KeptInside();
        Check.typeAll(full, " ".repeat(202));
        full.reads();
        Check.due("two FULL, a STATE", full.digest(), add(2503, 0, 0, 2, 200, 0, 0, 1, 0, 0, 0, 0, 0, 0, 0, -1));
        alike("");
    }

    private static void promise19Methods() {
        Sentences.test("Promise 19", "METHOD by METHOD of(0) to of(4), MAY of p, a, b, r, LINE by LINE line(0) to line(4);");
        KeptInside k = Check.read("{}", 1);
        Check.due("one METHOD of no LINES", k.digest(),
            add(2503, 0, 0, 0, 2, 1, 0, 1, 0, 0, 0, 0, 0, 0, 0, 0, 0, 0, 0, 0, 0, 0, 1, 0, -1));
        alike("{}{}{}{}");
        alike("{a=1(b);lock a;p=b;p.f=r;G=a;b=G;r=a.f;}{r=p;r=3(r);}{}{a=G;}");
        alike("{a=new;lock a;b=1(a);}{r=p;lock p;}");
        alike("{" + "a=b;".repeat(8) + "}{" + "r=p;".repeat(8) + "}");
    }

    private static void promise19Sites() {
        Sentences.test("Promise 19", "SITE by SITE site(0) to site(3), ran(0) to ran(2);");
        long h = add(add(add(add(2503, SMALL_TOLD), SMALL_METHODS), SMALL_SITES), SMALL_REST);
        Check.due("digest() of " + SMALL, Check.readAny(SMALL).digest(), h);
        alike("{a=new;b=new;a.f=b;lock b;r=1(a);}{b=new;p.f=b;lock p;r=b;}");
        // 32 SITES: the highest bit, and h past the ends of long
        alike("{a=new;b=new;p=new;r=new;a=new;b=new;p=new;r=new;}".repeat(4));
        alike(("{" + "r=new;".repeat(8) + "}").repeat(4));
        alike("{" + "a=1(a);".repeat(7) + "}{" + "a=2(a);".repeat(7) + "}{" + "a=3(a);".repeat(7) + "}{" + "r=new;".repeat(7)
            + "}");
    }

    private static void promise19Rest() {
        Sentences.test("Promise 19", "open(); run(0) to run(5); held().");
        alike("{a=new;b=new;G=b;lock a;r=1(a);}{r=new;lock r;}");
        alike("{a=new;b=new;G=b;lock p;r=1(a);}{r=new;lock r;}");
        alike("{a=new;G=a;G=b;}");
        // behind changes, refusals and back
        alike("{a=new;b=new;G=b;lock a;r=1(a);}{r=new;lock r;}", k -> {
            k.drops(0, 2);
            k.swaps(1, 0);
            k.swaps(1, 1);
            k.type(128);
        });
        alike("{a=new;b=new;G=b;lock a;r=1(a);}{r=new;lock r;}", k -> {
            k.drops(0, 0);
            k.digest();
            k.back();
            k.back();
            k.back();
        });
        KeptInside k = Check.readAny("{a=new;lock a;}");
        long before = k.digest();
        Check.due("digest() changes nothing", k.digest(), before);
        k.drops(0, 1);
        k.digest();
        k.back();
        Check.due("behind back()", k.digest(), before);
    }

    private interface Calls {
        void on(KeptInside k);
    }

    private static void alike(String text) {
        alike(text, k -> { });
    }

    private static void alike(String text, Calls behind) {
        Supplier<KeptInside> made = () -> {
            KeptInside k = Check.readAny(text);
            behind.on(k);
            return k;
        };
        Check.due("digest() of " + text, made.get().digest(), digestOfAnswers(made));
    }

    private static long digestOfAnswers(Supplier<KeptInside> made) {
        List<ToIntFunction<KeptInside>> questions = new ArrayList<>();
        for (int what = 0; what <= 6; what++) {
            int n = what;
            questions.add(k -> k.told(n));
        }
        for (int method = 0; method < made.get().told(4); method++) {
            addMethod(questions, method, made.get().of(method, 0));
        }
        for (int site = 0; site < made.get().told(5); site++) {
            addSite(questions, site);
        }
        questions.add(KeptInside::open);
        for (int what = 0; what <= 5; what++) {
            int n = what;
            questions.add(k -> k.run(n));
        }
        questions.add(KeptInside::held);
        long h = 2503;
        for (ToIntFunction<KeptInside> question : questions) {
            h = 31 * h + question.applyAsInt(made.get());
        }
        return h;
    }

    private static void addMethod(List<ToIntFunction<KeptInside>> questions, int m, int lines) {
        for (int what = 0; what <= 4; what++) {
            int n = what;
            questions.add(k -> k.of(m, n));
        }
        for (int name = 0; name <= 3; name++) {
            int x = name;
            questions.add(k -> k.may(m, x));
        }
        for (int line = 0; line < lines; line++) {
            for (int what = 0; what <= 4; what++) {
                int i = line;
                int n = what;
                questions.add(k -> k.line(m, i, n));
            }
        }
    }

    private static void addSite(List<ToIntFunction<KeptInside>> questions, int s) {
        for (int what = 0; what <= 3; what++) {
            int n = what;
            questions.add(k -> k.site(s, n));
        }
        for (int what = 0; what <= 2; what++) {
            int n = what;
            questions.add(k -> k.ran(s, n));
        }
    }
}
