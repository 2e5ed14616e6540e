import java.util.ArrayDeque;
import java.util.ArrayList;
import java.util.HashMap;
import java.util.HashSet;
import java.util.List;
import java.util.Map;
import java.util.Set;
import java.util.TreeSet;
import java.util.regex.Matcher;
import java.util.regex.Pattern;

/**
 * Long runs of calls on an object and on a second, slower telling of the document, side by side.
 * The second one shares no way of working with the class: its texts are read by patterns, its sets
 * are sets, its things are objects. What comes next is drawn from a row of numbers that is always
 * the same.
 */
public final class ModelTest {
    private static final int RUNS = 2000;

    /** Draws of SORTS: all alike, much made, many calls, such as never FAIL, fields and locks. */
    private static final String[] SORTS = {"01234567", "0000123456", "0777777", "01457", "0001223366"};
    private static long drawn = 20261117;

    /** All SORTS and blanks; as many METHODS and LINES as can be; words and figures that are not well. */
    private static final String[] TEXTS = {
        "{a=new;b=a;a.f=b;b=a.f;G=a;a=G;lock a;r=1(p);} {r=2(p); lock r ;}{ }",
        "{}{}{}{a=b;a=b;a=b;a=b;a=b;a=b;a=b;G=b;}", "{b=3(a);a=1(b);}{a=2(b);}{}", "{a=ne w;lock b;}"};

    private ModelTest() {
    }

    public static void main(String[] args) {
        for (int run = 0; run < RUNS; run++) {
            oneRun(run);
        }
        for (String text : TEXTS) {
            everyByteChanged(text);
        }
        Check.end("ModelTest");
    }

    /** Each of the 128 bytes in place of each byte, and put ahead of it; each byte left out; each beginning. */
    private static void everyByteChanged(String text) {
        for (int at = 0; at <= text.length(); at++) {
            String ahead = text.substring(0, at);
            String rest = text.substring(Math.min(at + 1, text.length()));
            for (int c = 0; c < 128; c++) {
                compareReading(ahead + (char) c + rest);
                compareReading(ahead + (char) c + text.substring(at));
            }
            compareReading(ahead + rest);
            compareReading(ahead);
        }
    }

    private static void compareReading(String text) {
        KeptInside k = new KeptInside();
        Check.typeAll(k, text);
        List<List<Line>> found = new ArrayList<>();
        int fault = TextModel.read(text, found);
        Check.due("reads of " + text, k.reads(), fault >= 0 ? -10 - fault : found.size());
        for (int m = 0; fault < 0 && m < found.size(); m++) {
            Check.due("LINES of METHOD " + m + " of " + text, k.of(m, 0), found.get(m).size());
        }
    }

    private static int draw(int bound) {
        drawn = drawn * 6364136223846793005L + 1442695040888963407L;
        return (int) ((drawn >>> 33) % bound);
    }

    private static void oneRun(int run) {
        KeptInside k = new KeptInside();
        Model model = new Model();
        int calls = 0;
        // the longest round is of 219 calls: all stay within the 512 that are promised
        while (calls < 290) {
            String where = "run " + run + ", call " + calls;
            int kind = draw(14);
            if (kind < 4) {
                String text = draw(3) == 0 ? broken(program()) : program();
                Check.due(where + " clear", k.clear(), model.clear());
                for (char c : text.toCharArray()) {
                    Check.due(where + " type", k.type(c), model.type(c));
                }
                Check.due(where + " reads of " + model.text, k.reads(), model.reads());
                calls += text.length() + 2;
            } else if (kind < 6) {
                int m = draw(6) - 1;
                int i = draw(10) - 1;
                Check.due(where + " drops", k.drops(m, i), model.drops(m, i));
            } else if (kind < 9) {
                int m = draw(6) - 1;
                int i = draw(10) - 1;
                Check.due(where + " swaps", k.swaps(m, i), model.swaps(m, i));
            } else if (kind < 11) {
                Check.due(where + " back", k.back(), model.back());
            } else if (kind == 11) {
                int c = draw(140) - 6;
                Check.due(where + " type", k.type(c), model.type(c));
            } else {
                Check.due(where + " reads of " + model.text, k.reads(), model.reads());
            }
            compareSome(where, k, model);
            calls += 13;
        }
        Check.due("run " + run + " digest", k.digest(), model.digest());
    }

    private static void compareSome(String where, KeptInside k, Model model) {
        int m = draw(5) - draw(2);
        int i = draw(9) - draw(2);
        int s = draw(model.sites.isEmpty() ? 2 : model.sites.size() + 1) - draw(2);
        int what = draw(8) - 1;
        int x = draw(6) - 1;
        Check.due(where + " of", k.of(m, what), model.of(m, what));
        Check.due(where + " line", k.line(m, i, what), model.line(m, i, what));
        Check.due(where + " site", k.site(s, what), model.site(s, what));
        Check.due(where + " may", k.may(m, x), model.may(m, x));
        Check.due(where + " open", k.open(), model.open());
        Check.due(where + " reached", k.reached(m, x), model.reached(m, x));
        Check.due(where + " fates", k.fates(what), model.fates(what));
        Check.due(where + " run", k.run(what), model.run(what));
        Check.due(where + " ran", k.ran(s, what), model.ran(s, what));
        Check.due(where + " held", k.held(), model.held());
        Check.due(where + " told", k.told(what), model.told(what));
        if (draw(3) == 0) {
            Check.due(where + " digest with " + model.methods, k.digest(), model.digest());
        }
    }

    // ---- texts, most of them well

    private static String program() {
        StringBuilder text = new StringBuilder();
        int methods = draw(20) == 0 ? 5 : 1 + draw(4);
        int blanks = draw(3) == 0 ? 4 : 0;
        String sorts = SORTS[draw(SORTS.length)];
        for (int m = 0; m < methods; m++) {
            addPart(text, "{", blanks);
            int lines = draw(25) == 0 ? 9 : draw(9);
            for (int i = 0; i < lines; i++) {
                boolean calls = m + 1 < methods;
                int sort = i < 1 && draw(3) != 0 ? 0 : sorts.charAt(draw(sorts.length())) - '0';
                addLine(text, sort == 7 && !calls ? 0 : sort, calls ? callee(m, methods) : 0, blanks);
            }
            addPart(text, "}", blanks);
        }
        return text.length() > 203 ? text.substring(0, 203) : text.toString();
    }

    private static int callee(int m, int methods) {
        return draw(60) == 0 ? draw(5) : m + 1 + draw(methods - m - 1) * draw(2);
    }

    private static void addLine(StringBuilder text, int sort, int callee, int blanks) {
        String x = name();
        String y = name();
        String[] parts;
        if (sort == 0) {
            parts = new String[] {x, "=", "new"};
        } else if (sort == 1) {
            parts = new String[] {x, "=", y};
        } else if (sort == 2) {
            parts = new String[] {x, ".", "f", "=", y};
        } else if (sort == 3) {
            parts = new String[] {x, "=", y, ".", "f"};
        } else if (sort == 4) {
            parts = new String[] {"G", "=", x};
        } else if (sort == 5) {
            parts = new String[] {x, "=", "G"};
        } else if (sort == 6) {
            parts = new String[] {"lock ", x};
        } else {
            parts = new String[] {x, "=", "" + callee, "(", y, ")"};
        }
        for (String part : parts) {
            addPart(text, part, blanks);
        }
        addPart(text, ";", blanks);
    }

    private static void addPart(StringBuilder text, String part, int blanks) {
        text.append(part);
        if (blanks != 0 && draw(blanks) == 0) {
            text.append(' ');
        }
    }

    private static String name() {
        return "" + "pabrabpr".charAt(draw(8));
    }

    private static String broken(String text) {
        StringBuilder b = new StringBuilder(text);
        String signs = "{}=.;()0123 pabrfGnewlock\tg49Z";
        int times = 1 + draw(2);
        for (int n = 0; n < times && b.length() > 0; n++) {
            int at = draw(b.length());
            char sign = signs.charAt(draw(signs.length()));
            int kind = draw(4);
            if (kind == 0) {
                b.setLength(at);
            } else if (kind == 1) {
                b.deleteCharAt(at);
            } else if (kind == 2) {
                b.insert(at, sign);
            } else {
                b.setCharAt(at, sign);
            }
        }
        return b.toString();
    }

    // ---- the second telling

    private record Line(int sort, int x, int y, int callee) {
    }

    private record Place(int method, int line) {
    }

    private static final class Thing {
        final int site;
        Thing f;

        Thing(int site) {
            this.site = site;
        }
    }

    private static final class Failing extends Exception {
        private static final long serialVersionUID = 1L;
    }

    private static final class Model {
        String text = "";
        List<List<Line>> methods = new ArrayList<>();
        final ArrayDeque<List<List<Line>>> states = new ArrayDeque<>();
        final int[] refused = new int[3];
        List<Place> sites = new ArrayList<>();
        Map<String, Set<Integer>> may = new HashMap<>();

        boolean failed;
        int locks;
        int idleLocks;
        int calls;
        List<Thing> made;
        Set<Thing> leaked;
        Map<Integer, Integer> locksOf;
        Thing inG;

        Model() {
            look();
        }

        int bad() {
            refused[0]++;
            return -2;
        }

        int type(int c) {
            if (c < 0 || c > 127) {
                return bad();
            }
            if (text.length() == 200) {
                refused[2]++;
                return -4;
            }
            text += (char) c;
            return text.length();
        }

        int clear() {
            int had = text.length();
            text = "";
            return had;
        }

        int reads() {
            List<List<Line>> found = new ArrayList<>();
            int fault = TextModel.read(text, found);
            if (fault >= 0) {
                return -10 - fault;
            }
            leave();
            methods = found;
            look();
            return found.size();
        }

        int drops(int m, int i) {
            if (!hasLine(m, i)) {
                return bad();
            }
            leave();
            methods.get(m).remove(i);
            look();
            return methods.get(m).size();
        }

        int swaps(int m, int i) {
            if (!hasLine(m, i) || !hasLine(m, i + 1)) {
                return bad();
            }
            leave();
            methods.get(m).add(i + 1, methods.get(m).remove(i));
            look();
            return 1;
        }

        int back() {
            if (states.isEmpty()) {
                refused[1]++;
                return -3;
            }
            methods = states.pop();
            look();
            return states.size();
        }

        void leave() {
            List<List<Line>> copy = new ArrayList<>();
            for (List<Line> lines : methods) {
                copy.add(new ArrayList<>(lines));
            }
            states.push(copy);
            if (states.size() > 5) {
                states.removeLast();
            }
        }

        boolean has(int m) {
            return m >= 0 && m < methods.size();
        }

        boolean hasLine(int m, int i) {
            return has(m) && i >= 0 && i < methods.get(m).size();
        }

        void look() {
            sites = new ArrayList<>();
            for (int m = 0; m < methods.size(); m++) {
                for (int i = 0; i < methods.get(m).size(); i++) {
                    if (methods.get(m).get(i).sort == 0) {
                        sites.add(new Place(m, i));
                    }
                }
            }
            may = new HashMap<>();
            int size = -1;
            while (size != sizeOfMay()) {
                size = sizeOfMay();
                for (int m = 0; m < methods.size(); m++) {
                    for (int i = 0; i < methods.get(m).size(); i++) {
                        grow(m, i);
                    }
                }
            }
            tryRun();
        }

        int sizeOfMay() {
            int size = 0;
            for (Set<Integer> set : may.values()) {
                size += set.size();
            }
            return size;
        }

        Set<Integer> set(String key) {
            return may.computeIfAbsent(key, any -> new TreeSet<>());
        }

        Set<Integer> set(int m, int x) {
            return set("name " + m + " " + x);
        }

        void grow(int m, int i) {
            Line line = methods.get(m).get(i);
            Set<Integer> x = set(m, line.x);
            if (line.sort == 0) {
                x.add(sites.indexOf(new Place(m, i)));
            } else if (line.sort == 1) {
                x.addAll(set(m, line.y));
            } else if (line.sort == 2) {
                for (int s : new ArrayList<>(x)) {
                    set("f " + s).addAll(set(m, line.y));
                }
            } else if (line.sort == 3) {
                for (int s : new ArrayList<>(set(m, line.y))) {
                    x.addAll(set("f " + s));
                }
            } else if (line.sort == 4) {
                set("G").addAll(x);
            } else if (line.sort == 5) {
                x.addAll(set("G"));
            } else if (line.sort == 7) {
                set(line.callee, 0).addAll(set(m, line.y));
                x.addAll(set(line.callee, 3));
            }
        }

        Set<Integer> reach(Set<Integer> from) {
            Set<Integer> all = new TreeSet<>();
            ArrayDeque<Integer> open = new ArrayDeque<>(from);
            while (!open.isEmpty()) {
                int s = open.pop();
                if (all.add(s)) {
                    open.addAll(set("f " + s));
                }
            }
            return all;
        }

        int fate(int s) {
            if (reach(set("G")).contains(s)) {
                return 2;
            }
            Set<Integer> both = new TreeSet<>(set(sites.get(s).method, 0));
            both.addAll(set(sites.get(s).method, 3));
            return reach(both).contains(s) ? 1 : 0;
        }

        boolean idle(int m, int i) {
            Line line = methods.get(m).get(i);
            if (line.sort != 6 || set(m, line.x).isEmpty()) {
                return false;
            }
            for (int s : set(m, line.x)) {
                if (fate(s) != 0) {
                    return false;
                }
            }
            return true;
        }

        static int bits(Set<Integer> set) {
            int bits = 0;
            for (int s : set) {
                bits |= 1 << s;
            }
            return bits;
        }

        void tryRun() {
            failed = false;
            locks = 0;
            idleLocks = 0;
            calls = 0;
            made = new ArrayList<>();
            leaked = new HashSet<>();
            locksOf = new HashMap<>();
            inG = null;
            if (!methods.isEmpty()) {
                try {
                    call(0, null);
                } catch (Failing end) {
                    failed = true;
                }
            }
        }

        Thing call(int m, Thing p) throws Failing {
            calls++;
            Thing[] names = {p, null, null, null};
            List<Thing> mine = new ArrayList<>();
            for (int i = 0; i < methods.get(m).size(); i++) {
                Line line = methods.get(m).get(i);
                switch (line.sort) {
                    case 0 -> {
                        names[line.x] = new Thing(sites.indexOf(new Place(m, i)));
                        mine.add(names[line.x]);
                        made.add(names[line.x]);
                    }
                    case 1 -> names[line.x] = names[line.y];
                    case 2 -> some(names[line.x]).f = names[line.y];
                    case 3 -> names[line.x] = some(names[line.y]).f;
                    case 4 -> inG = names[line.x];
                    case 5 -> names[line.x] = inG;
                    case 6 -> {
                        locksOf.merge(some(names[line.x]).site, 1, Integer::sum);
                        locks++;
                        idleLocks += idle(m, i) ? 1 : 0;
                    }
                    default -> names[line.x] = call(line.callee, names[line.y]);
                }
            }
            Set<Thing> out = new HashSet<>();
            for (Thing root : new Thing[] {inG, p, names[3]}) {
                for (Thing t = root; t != null && out.add(t); t = t.f) {
                    continue;
                }
            }
            for (Thing t : mine) {
                if (out.contains(t)) {
                    leaked.add(t);
                }
            }
            return names[3];
        }

        static Thing some(Thing t) throws Failing {
            if (t == null) {
                throw new Failing();
            }
            return t;
        }

        static int ofSite(Iterable<Thing> things, int s) {
            int count = 0;
            for (Thing t : things) {
                count += t.site == s ? 1 : 0;
            }
            return count;
        }

        int of(int m, int what) {
            if (!has(m) || what < 0 || what > 4) {
                return bad();
            }
            int[] found = {methods.get(m).size(), 0, 0, 0, 0};
            for (int s = 0; s < sites.size(); s++) {
                if (sites.get(s).method == m) {
                    found[1]++;
                    found[2] += fate(s) == 0 ? 1 : 0;
                }
            }
            for (int i = 0; i < methods.get(m).size(); i++) {
                found[3] |= idle(m, i) ? 1 << i : 0;
                Line line = methods.get(m).get(i);
                found[4] |= line.sort == 7 ? 1 << line.callee : 0;
            }
            return found[what];
        }

        int line(int m, int i, int what) {
            if (!hasLine(m, i) || what < 0 || what > 4) {
                return bad();
            }
            Line line = methods.get(m).get(i);
            return new int[] {line.sort, line.x, line.y, line.callee, sites.indexOf(new Place(m, i))}[what];
        }

        int site(int s, int what) {
            if (s < 0 || s >= sites.size() || what < 0 || what > 3) {
                return bad();
            }
            return new int[] {sites.get(s).method, sites.get(s).line, fate(s), bits(set("f " + s))}[what];
        }

        int may(int m, int x) {
            return !has(m) || x < 0 || x > 3 ? bad() : bits(set(m, x));
        }

        int open() {
            return bits(set("G"));
        }

        int reached(int m, int x) {
            return !has(m) || x < 0 || x > 3 ? bad() : bits(reach(set(m, x)));
        }

        int fates(int fate) {
            if (fate < 0 || fate > 2) {
                return bad();
            }
            int count = 0;
            for (int s = 0; s < sites.size(); s++) {
                count += fate(s) == fate ? 1 : 0;
            }
            return count;
        }

        int run(int what) {
            if (what < 0 || what > 5) {
                return bad();
            }
            return new int[] {failed ? 1 : 0, made.size(), locks, idleLocks, calls, leaked.size()}[what];
        }

        int ran(int s, int what) {
            if (s < 0 || s >= sites.size() || what < 0 || what > 2) {
                return bad();
            }
            return new int[] {ofSite(made, s), ofSite(leaked, s), locksOf.getOrDefault(s, 0)}[what];
        }

        int held() {
            return inG == null ? -1 : inG.site;
        }

        int told(int what) {
            if (what < 0 || what > 6) {
                return bad();
            }
            return new int[] {refused[0], refused[1], refused[2], text.length(), methods.size(), sites.size(),
                states.size()}[what];
        }

        long digest() {
            List<Integer> all = new ArrayList<>();
            for (int what = 0; what <= 6; what++) {
                all.add(told(what));
            }
            for (int m = 0; m < methods.size(); m++) {
                for (int what = 0; what <= 4; what++) {
                    all.add(of(m, what));
                }
                for (int x = 0; x <= 3; x++) {
                    all.add(may(m, x));
                }
                for (int i = 0; i < methods.get(m).size(); i++) {
                    for (int what = 0; what <= 4; what++) {
                        all.add(line(m, i, what));
                    }
                }
            }
            for (int s = 0; s < sites.size(); s++) {
                for (int what = 0; what <= 3; what++) {
                    all.add(site(s, what));
                }
                for (int what = 0; what <= 2; what++) {
                    all.add(ran(s, what));
                }
            }
            all.add(open());
            for (int what = 0; what <= 5; what++) {
                all.add(run(what));
            }
            all.add(held());
            long h = 2503;
            for (int v : all) {
                h = 31 * h + v;
            }
            return h;
        }
    }

    /** THE TEXT by patterns: words become single letters, then every beginning is tried. */
    private static final class TextModel {
        private static final Pattern PARTS = Pattern.compile("[a-z]+|[^ ]", Pattern.DOTALL);
        private static final Pattern WHOLE = Pattern.compile(whole());
        private static final Pattern METHOD = Pattern.compile("\\{([^}]*)\\}");

        static String whole() {
            String all = "";
            for (int m = 3; m >= 0; m--) {
                String call = m == 3 ? "" : "|[" + (m + 1) + "-3]\\([pabr]\\)";
                String lines = "(?:(?:[pabr]=(?:N|G|[pabr](?:\\.f)?" + call + ")|[pabr]\\.f=[pabr]|G=[pabr]|L[pabr]);){0,8}";
                all = "(?:\\{" + lines + "\\}" + all + ")?";
            }
            return all;
        }

        /** Answers the FAULT, -1 if there is none. */
        static int read(String text, List<List<Line>> found) {
            StringBuilder letters = new StringBuilder();
            List<Integer> places = new ArrayList<>();
            Matcher parts = PARTS.matcher(text);
            while (parts.find()) {
                letters.append(letter(parts.group()));
                places.add(parts.start());
            }
            for (int n = 1; n <= letters.length(); n++) {
                Matcher beginning = WHOLE.matcher(letters.substring(0, n));
                if (!beginning.matches() && !beginning.hitEnd()) {
                    return places.get(n - 1);
                }
            }
            if (!WHOLE.matcher(letters).matches()) {
                return text.length();
            }
            Matcher method = METHOD.matcher(letters);
            while (method.find()) {
                found.add(lines(method.group(1)));
            }
            for (int n = 0; n < letters.length(); n++) {
                if (Character.isDigit(letters.charAt(n)) && letters.charAt(n) - '0' >= found.size()) {
                    return places.get(n);
                }
            }
            return -1;
        }

        static char letter(String part) {
            if (part.equals("new")) {
                return 'N';
            }
            if (part.equals("lock")) {
                return 'L';
            }
            // N and L typed as such are no words, nor is any other word
            return part.length() > 1 || part.equals("N") || part.equals("L") ? '?' : part.charAt(0);
        }

        static List<Line> lines(String letters) {
            List<Line> lines = new ArrayList<>();
            for (String told : letters.isEmpty() ? new String[0] : letters.split(";")) {
                lines.add(line(told));
            }
            return lines;
        }

        static Line line(String told) {
            char last = told.charAt(told.length() - 1);
            int first = "pabr".indexOf(told.charAt(0));
            if (told.startsWith("L")) {
                return new Line(6, "pabr".indexOf(last), -1, -1);
            }
            if (told.startsWith("G")) {
                return new Line(4, "pabr".indexOf(last), -1, -1);
            }
            if (told.charAt(1) == '.') {
                return new Line(2, first, "pabr".indexOf(last), -1);
            }
            if (last == 'N') {
                return new Line(0, first, -1, -1);
            }
            if (last == 'G') {
                return new Line(5, first, -1, -1);
            }
            if (last == 'f') {
                return new Line(3, first, "pabr".indexOf(told.charAt(2)), -1);
            }
            if (last == ')') {
                return new Line(7, first, "pabr".indexOf(told.charAt(4)), told.charAt(2) - '0');
            }
            return new Line(1, first, "pabr".indexOf(last), -1);
        }
    }
}
