import java.util.Arrays;

/**
 * Small METHODS that make THINGS, hold them in one another, hand them on and lock them: what each
 * NAME and each SITE may hold, which SITES stay inside their METHOD, and what a RUN really does.
 */
public final class KeptInside {
    public static final int NONE = -1, BAD = -2, NO = -3, FULL = -4;

    private static final int MOST_BYTES = 200, MOST_METHODS = 4, MOST_LINES = 8, MOST_STATES = 5;
    private static final int NAMES = 4, PARAMETER = 0, RESULT = 3;
    private static final int ALL_LINES = MOST_METHODS * MOST_LINES, MOST_SITES = ALL_LINES;

    /** A METHOD calls only greater ones, so four of eight LINES each stand inside one another. */
    private static final int MOST_THINGS = MOST_LINES * MOST_LINES * MOST_LINES * MOST_LINES;

    private static final int MAKE = 0, COPY = 1, PUT = 2, TAKE = 3, SHOW = 4, FETCH = 5, LOCK = 6, CALL = 7;
    private static final int FATE_KEPT = 0, FATE_OUT = 1, FATE_OPEN = 2;

    private static final int FATES = 3;

    /** How many questions there are of each kind: the bound of its 'what'. */
    private static final int OF_METHOD = 5, OF_LINE = 5, OF_SITE = 4, OF_RUN = 6, OF_SITE_RUN = 3, OF_ALL = 7;

    /** A FAULT's place is taken from here, so that no refusal can look like one. */
    private static final int FAULT_ANSWER = -10;

    private final Text text = new Text();
    private final Methods methods = new Methods();
    private final Methods newMethods = new Methods();
    private final Reader reader = new Reader(text, newMethods);
    private final States states = new States();
    private final Sites sites = new Sites();
    private final MaySets mays = new MaySets(methods, sites);
    private final Fates siteFates = new Fates(methods, sites, mays);
    private final Trial trial = new Trial(methods, sites, siteFates);

    private int timesBad;
    private int timesNo;
    private int timesFull;

    /** Both are found only when asked for, once for each change of METHODS. */
    private boolean maysFound;
    private boolean runFound;

    public KeptInside() {
    }

    // ---- methods

    public int type(int c) {
        if (isOutside(c, 128)) {
            return refusedAsBad();
        }
        if (text.isFull()) {
            return refusedAsFull();
        }
        text.append(c);
        return text.length();
    }

    public int clear() {
        int had = text.length();
        text.empty();
        return had;
    }

    public int reads() {
        int fault = reader.readAll();
        if (fault != NONE) {
            return FAULT_ANSWER - fault;
        }
        leaveState();
        methods.becomeLike(newMethods);
        return methods.count();
    }

    public int drops(int m, int i) {
        if (!methods.hasLine(m, i)) {
            return refusedAsBad();
        }
        leaveState();
        methods.removeLine(m, i);
        return methods.lines(m);
    }

    public int swaps(int m, int i) {
        if (!methods.hasLine(m, i) || !methods.hasLine(m, i + 1)) {
            return refusedAsBad();
        }
        leaveState();
        methods.swapWithNext(m, i);
        return 1;
    }

    public int of(int m, int what) {
        if (!methods.has(m) || isOutside(what, OF_METHOD)) {
            return refusedAsBad();
        }
        findMays();
        return ofMethod(m, what);
    }

    public int line(int m, int i, int what) {
        if (!methods.hasLine(m, i) || isOutside(what, OF_LINE)) {
            return refusedAsBad();
        }
        findMays();
        return ofLine(m, i, what);
    }

    // ---- what may be

    public int site(int s, int what) {
        findMays();
        if (isOutside(s, sites.count()) || isOutside(what, OF_SITE)) {
            return refusedAsBad();
        }
        return ofSite(s, what);
    }

    public int may(int m, int x) {
        if (!methods.has(m) || isOutside(x, NAMES)) {
            return refusedAsBad();
        }
        findMays();
        return mays.inName(m, x);
    }

    public int open() {
        findMays();
        return mays.inOpenPlace();
    }

    public int reached(int m, int x) {
        if (!methods.has(m) || isOutside(x, NAMES)) {
            return refusedAsBad();
        }
        findMays();
        return mays.reachedFrom(mays.inName(m, x));
    }

    public int fates(int fate) {
        if (isOutside(fate, FATES)) {
            return refusedAsBad();
        }
        findMays();
        return siteFates.countOf(fate);
    }

    // ---- runs

    public int run(int what) {
        if (isOutside(what, OF_RUN)) {
            return refusedAsBad();
        }
        findRun();
        return ofRun(what);
    }

    public int ran(int s, int what) {
        findMays();
        if (isOutside(s, sites.count()) || isOutside(what, OF_SITE_RUN)) {
            return refusedAsBad();
        }
        findRun();
        return ofSiteRun(s, what);
    }

    public int held() {
        findRun();
        return trial.siteInOpenPlace();
    }

    // ---- what there is

    public int back() {
        if (states.count() == 0) {
            return refusedAsNo();
        }
        states.giveBack(methods);
        forgetFindings();
        return states.count();
    }

    public int told(int what) {
        if (isOutside(what, OF_ALL)) {
            return refusedAsBad();
        }
        findMays();
        return ofAll(what);
    }

    public long digest() {
        findRun();
        long h = 2503;
        for (int what = 0; what < OF_ALL; what++) {
            h = 31 * h + ofAll(what);
        }
        for (int m = 0; m < methods.count(); m++) {
            h = digestWithMethod(h, m);
        }
        for (int s = 0; s < sites.count(); s++) {
            h = digestWithSite(h, s);
        }
        h = 31 * h + mays.inOpenPlace();
        for (int what = 0; what < OF_RUN; what++) {
            h = 31 * h + ofRun(what);
        }
        return 31 * h + trial.siteInOpenPlace();
    }

    private long digestWithMethod(long before, int m) {
        long h = before;
        for (int what = 0; what < OF_METHOD; what++) {
            h = 31 * h + ofMethod(m, what);
        }
        for (int x = 0; x < NAMES; x++) {
            h = 31 * h + mays.inName(m, x);
        }
        for (int i = 0; i < methods.lines(m); i++) {
            for (int what = 0; what < OF_LINE; what++) {
                h = 31 * h + ofLine(m, i, what);
            }
        }
        return h;
    }

    private long digestWithSite(long before, int s) {
        long h = before;
        for (int what = 0; what < OF_SITE; what++) {
            h = 31 * h + ofSite(s, what);
        }
        for (int what = 0; what < OF_SITE_RUN; what++) {
            h = 31 * h + ofSiteRun(s, what);
        }
        return h;
    }

    private int ofMethod(int m, int what) {
        switch (what) {
            case 0:
                return methods.lines(m);
            case 1:
                return sites.inMethod(m);
            case 2:
                return siteFates.keptIn(m);
            case 3:
                return siteFates.idleLines(m);
            default:
                return methods.calledBy(m);
        }
    }

    private int ofLine(int m, int i, int what) {
        switch (what) {
            case 0:
                return methods.sort(m, i);
            case 1:
                return methods.name(m, i);
            case 2:
                return methods.hasOther(m, i) ? methods.other(m, i) : NONE;
            case 3:
                return methods.sort(m, i) == CALL ? methods.callee(m, i) : NONE;
            default:
                return sites.ofLine(m, i);
        }
    }

    private int ofSite(int s, int what) {
        switch (what) {
            case 0:
                return sites.methodOf(s);
            case 1:
                return sites.lineOf(s);
            case 2:
                return siteFates.ofSite(s);
            default:
                return mays.inField(s);
        }
    }

    private int ofRun(int what) {
        switch (what) {
            case 0:
                return trial.failed() ? 1 : 0;
            case 1:
                return trial.made();
            case 2:
                return trial.locks();
            case 3:
                return trial.idleLocks();
            case 4:
                return trial.calls();
            default:
                return trial.leaks();
        }
    }

    private int ofSiteRun(int s, int what) {
        switch (what) {
            case 0:
                return trial.madeOf(s);
            case 1:
                return trial.leaksOf(s);
            default:
                return trial.locksOf(s);
        }
    }

    private int ofAll(int what) {
        switch (what) {
            case 0:
                return timesBad;
            case 1:
                return timesNo;
            case 2:
                return timesFull;
            case 3:
                return text.length();
            case 4:
                return methods.count();
            case 5:
                return sites.count();
            default:
                return states.count();
        }
    }

    private int refusedAsBad() {
        timesBad++;
        return BAD;
    }

    private int refusedAsNo() {
        timesNo++;
        return NO;
    }

    private int refusedAsFull() {
        timesFull++;
        return FULL;
    }

    private static boolean isOutside(int number, int bound) {
        return number < 0 || number >= bound;
    }

    /** Goes ahead of every change of METHODS that can be taken back. */
    private void leaveState() {
        states.keep(methods);
        forgetFindings();
    }

    private void forgetFindings() {
        maysFound = false;
        runFound = false;
    }

    private void findMays() {
        if (!maysFound) {
            sites.number(methods);
            mays.find();
            siteFates.find();
            maysFound = true;
        }
    }

    private void findRun() {
        findMays();
        if (!runFound) {
            trial.start();
            runFound = true;
        }
    }

    /** THE TEXT as it was typed. */
    private static final class Text {
        private final byte[] bytes = new byte[MOST_BYTES];
        private int length;

        int length() {
            return length;
        }

        boolean isFull() {
            return length >= MOST_BYTES;
        }

        void append(int c) {
            if (length < MOST_BYTES) {
                bytes[length] = (byte) c;
                length++;
            }
        }

        void empty() {
            length = 0;
        }

        int at(int place) {
            return isOutside(place, length) ? NONE : bytes[place];
        }
    }

    /** METHODS with their LINES, each LINE in one number so that a STATE is cheap to copy. */
    private static final class Methods {
        private int count;
        private final int[] lines = new int[MOST_METHODS];
        private final int[] codes = new int[ALL_LINES];

        int count() {
            return count;
        }

        boolean has(int m) {
            return m >= 0 && m < count;
        }

        int lines(int m) {
            return has(m) ? lines[m] : 0;
        }

        boolean hasLine(int m, int i) {
            return i >= 0 && i < lines(m);
        }

        int sort(int m, int i) {
            return code(m, i) & 7;
        }

        int name(int m, int i) {
            return code(m, i) >> 3 & 3;
        }

        boolean hasOther(int m, int i) {
            int sort = sort(m, i);
            return sort == COPY || sort == PUT || sort == TAKE || sort == CALL;
        }

        int other(int m, int i) {
            return code(m, i) >> 5 & 3;
        }

        int callee(int m, int i) {
            return code(m, i) >> 7 & 3;
        }

        int calledBy(int m) {
            int called = 0;
            for (int i = 0; i < lines(m); i++) {
                if (sort(m, i) == CALL) {
                    called |= 1 << callee(m, i);
                }
            }
            return called;
        }

        void becomeNone() {
            count = 0;
        }

        void addMethod() {
            if (count < MOST_METHODS) {
                lines[count] = 0;
                count++;
            }
        }

        /** The LINE goes to the METHOD added last. */
        void addLine(int sort, int name, int other, int callee) {
            int m = count - 1;
            if (has(m) && lines[m] < MOST_LINES) {
                codes[m * MOST_LINES + lines[m]] = sort | name << 3 | other << 5 | callee << 7;
                lines[m]++;
            }
        }

        void removeLine(int m, int i) {
            if (hasLine(m, i)) {
                int at = m * MOST_LINES + i;
                System.arraycopy(codes, at + 1, codes, at, lines[m] - 1 - i);
                lines[m]--;
            }
        }

        void swapWithNext(int m, int i) {
            if (hasLine(m, i) && hasLine(m, i + 1)) {
                int at = m * MOST_LINES + i;
                int first = codes[at];
                codes[at] = codes[at + 1];
                codes[at + 1] = first;
            }
        }

        void becomeLike(Methods others) {
            count = others.count;
            System.arraycopy(others.lines, 0, lines, 0, MOST_METHODS);
            System.arraycopy(others.codes, 0, codes, 0, ALL_LINES);
        }

        private int code(int m, int i) {
            return m >= 0 && m < count && i >= 0 && i < lines[m] ? codes[m * MOST_LINES + i] : 0;
        }
    }

    /**
     * THE TEXT cut into signs and words, without its blanks, and how far they have been taken. A
     * sign and a word of one letter are told by their byte; what no LINE has a use for is cut like
     * the rest, as it is a FAULT only where the reader comes to it.
     */
    private static final class Tokens {
        static final int END = -1, WORD_NEW = 128, WORD_LOCK = 129, OTHER_WORD = 130;

        private final int[] kinds = new int[MOST_BYTES];
        private final int[] places = new int[MOST_BYTES];
        private int count;
        private int next;
        private int textLength;

        int ahead() {
            return next < count ? kinds[next] : END;
        }

        int place() {
            return next < count ? places[next] : textLength;
        }

        void step() {
            if (next < count) {
                next++;
            }
        }

        void cut(Text text) {
            count = 0;
            next = 0;
            textLength = text.length();
            int place = 0;
            while (place < textLength) {
                int length = Math.max(1, lettersFrom(text, place));
                if (text.at(place) != ' ') {
                    add(length == 1 ? text.at(place) : wordKind(text, place, length), place);
                }
                place += length;
            }
        }

        private void add(int kind, int place) {
            if (count < MOST_BYTES) {
                kinds[count] = kind;
                places[count] = place;
                count++;
            }
        }

        private static int lettersFrom(Text text, int place) {
            int end = place;
            while (end < text.length() && text.at(end) >= 'a' && text.at(end) <= 'z') {
                end++;
            }
            return end - place;
        }

        private static int wordKind(Text text, int place, int length) {
            if (spells(text, place, length, "new")) {
                return WORD_NEW;
            }
            return spells(text, place, length, "lock") ? WORD_LOCK : OTHER_WORD;
        }

        private static boolean spells(Text text, int place, int length, String word) {
            boolean same = word.length() == length;
            for (int k = 0; k < length && same; k++) {
                same = text.at(place + k) == word.charAt(k);
            }
            return same;
        }
    }

    /** Reads THE TEXT into METHODS. The first FAULT stays; what is read behind it is of no use. */
    private static final class Reader {
        private final Text text;
        private final Methods methods;
        private final Tokens tokens = new Tokens();
        private int fault;

        /** Whether a called METHOD is there is known only at the end of THE TEXT. */
        private final int[] firstCall = new int[MOST_METHODS];

        /** The LINE that is being read. */
        private int sort;
        private int x;
        private int y;
        private int callee;

        Reader(Text text, Methods methods) {
            this.text = text;
            this.methods = methods;
        }

        /** Answers the FAULT; NONE: THE TEXT is well. */
        int readAll() {
            fault = NONE;
            tokens.cut(text);
            methods.becomeNone();
            Arrays.fill(firstCall, NONE);
            for (int m = 0; m < MOST_METHODS && fault == NONE && tokens.ahead() != Tokens.END; m++) {
                readMethod(m);
            }
            take(Tokens.END);
            return fault == NONE ? firstMissingCall() : fault;
        }

        private int firstMissingCall() {
            int first = NONE;
            for (int m = methods.count(); m < MOST_METHODS; m++) {
                if (firstCall[m] != NONE && (first == NONE || firstCall[m] < first)) {
                    first = firstCall[m];
                }
            }
            return first;
        }

        private void readMethod(int m) {
            methods.addMethod();
            take('{');
            for (int i = 0; i < MOST_LINES && fault == NONE && tokens.ahead() != '}'; i++) {
                readLine(m);
                take(';');
                methods.addLine(sort, x, y, callee);
            }
            take('}');
        }

        private void readLine(int m) {
            y = 0;
            callee = 0;
            if (tokens.ahead() == 'G') {
                sort = SHOW;
                take('G');
                take('=');
                x = takeName();
            } else if (tokens.ahead() == Tokens.WORD_LOCK) {
                sort = LOCK;
                take(Tokens.WORD_LOCK);
                x = takeName();
            } else {
                x = takeName();
                if (tokens.ahead() == '.') {
                    readPut();
                } else {
                    take('=');
                    readValue(m);
                }
            }
        }

        private void readPut() {
            sort = PUT;
            take('.');
            take('f');
            take('=');
            y = takeName();
        }

        private void readValue(int m) {
            int kind = tokens.ahead();
            if (kind == 'G') {
                sort = FETCH;
                take('G');
            } else if (kind == Tokens.WORD_NEW) {
                sort = MAKE;
                take(Tokens.WORD_NEW);
            } else if (kind > '0' + m && kind < '0' + MOST_METHODS) {
                sort = CALL;
                callee = kind - '0';
                noteCall();
                take(kind);
                take('(');
                y = takeName();
                take(')');
            } else {
                sort = COPY;
                y = takeName();
                if (tokens.ahead() == '.') {
                    sort = TAKE;
                    take('.');
                    take('f');
                }
            }
        }

        private void noteCall() {
            if (!isOutside(callee, MOST_METHODS) && firstCall[callee] == NONE) {
                firstCall[callee] = tokens.place();
            }
        }

        private void take(int wanted) {
            if (tokens.ahead() == wanted) {
                tokens.step();
            } else {
                refuse();
            }
        }

        private void refuse() {
            if (fault == NONE) {
                fault = tokens.place();
            }
        }

        private int takeName() {
            int name = nameOf(tokens.ahead());
            if (name == NONE) {
                refuse();
                return PARAMETER;
            }
            tokens.step();
            return name;
        }

        private static int nameOf(int word) {
            switch (word) {
                case 'p':
                    return 0;
                case 'a':
                    return 1;
                case 'b':
                    return 2;
                case 'r':
                    return 3;
                default:
                    return NONE;
            }
        }
    }

    /** METHODS to go back to, the oldest first. */
    private static final class States {
        private final Methods[] kept = new Methods[MOST_STATES];
        private int count;

        States() {
            for (int k = 0; k < MOST_STATES; k++) {
                kept[k] = new Methods();
            }
        }

        int count() {
            return count;
        }

        void keep(Methods now) {
            if (count >= MOST_STATES) {
                loseOldest();
            }
            kept[count].becomeLike(now);
            count++;
        }

        void giveBack(Methods now) {
            if (count > 0) {
                count--;
                now.becomeLike(kept[count]);
            }
        }

        private void loseOldest() {
            Methods oldest = kept[0];
            for (int k = 1; k < MOST_STATES; k++) {
                kept[k - 1] = kept[k];
            }
            kept[MOST_STATES - 1] = oldest;
            count = MOST_STATES - 1;
        }
    }

    /** The LINES of SORT 0, numbered. */
    private static final class Sites {
        private int count;
        private final int[] places = new int[MOST_SITES];
        private final int[] ofLines = new int[ALL_LINES];
        private final int[] inMethods = new int[MOST_METHODS];

        int count() {
            return count;
        }

        int methodOf(int s) {
            return isOutside(s, count) ? NONE : places[s] / MOST_LINES;
        }

        int lineOf(int s) {
            return isOutside(s, count) ? NONE : places[s] % MOST_LINES;
        }

        int inMethod(int m) {
            return isOutside(m, MOST_METHODS) ? 0 : inMethods[m];
        }

        int ofLine(int m, int i) {
            return isOutside(m, MOST_METHODS) || isOutside(i, MOST_LINES) ? NONE : ofLines[m * MOST_LINES + i];
        }

        void number(Methods methods) {
            count = 0;
            Arrays.fill(ofLines, NONE);
            Arrays.fill(inMethods, 0);
            for (int m = 0; m < methods.count(); m++) {
                for (int i = 0; i < methods.lines(m); i++) {
                    if (methods.sort(m, i) == MAKE) {
                        add(m, i);
                    }
                }
            }
        }

        private void add(int m, int i) {
            if (count < MOST_SITES) {
                places[count] = m * MOST_LINES + i;
                ofLines[m * MOST_LINES + i] = count;
                inMethods[m]++;
                count++;
            }
        }
    }

    /** MAY of all NAMES, of G and of f of all SITES, as bits. */
    private static final class MaySets {
        /** Each round but the last one adds a SITE to one of the sets at least. */
        private static final int MOST_ROUNDS = (MOST_METHODS * NAMES + 1 + MOST_SITES) * MOST_SITES + 1;

        private final Methods methods;
        private final Sites sites;
        private final int[] names = new int[MOST_METHODS * NAMES];
        private final int[] fields = new int[MOST_SITES];
        private int openPlace;
        private boolean grew;

        MaySets(Methods methods, Sites sites) {
            this.methods = methods;
            this.sites = sites;
        }

        int inName(int m, int x) {
            return isOutside(m, MOST_METHODS) || isOutside(x, NAMES) ? 0 : names[m * NAMES + x];
        }

        int inField(int s) {
            return isOutside(s, MOST_SITES) ? 0 : fields[s];
        }

        int inOpenPlace() {
            return openPlace;
        }

        int reachedFrom(int start) {
            int reached = start;
            int before = 0;
            for (int round = 0; round <= MOST_SITES && reached != before; round++) {
                before = reached;
                reached |= inFields(reached);
            }
            return reached;
        }

        void find() {
            Arrays.fill(names, 0);
            Arrays.fill(fields, 0);
            openPlace = 0;
            grew = true;
            for (int round = 0; round < MOST_ROUNDS && grew; round++) {
                grew = false;
                for (int m = 0; m < methods.count(); m++) {
                    for (int i = 0; i < methods.lines(m); i++) {
                        addByLine(m, i);
                    }
                }
            }
        }

        private void addByLine(int m, int i) {
            int x = methods.name(m, i);
            int inOther = inName(m, methods.other(m, i));
            switch (methods.sort(m, i)) {
                case MAKE:
                    addToName(m, x, 1 << sites.ofLine(m, i));
                    break;
                case COPY:
                    addToName(m, x, inOther);
                    break;
                case PUT:
                    addToFields(inName(m, x), inOther);
                    break;
                case TAKE:
                    addToName(m, x, inFields(inOther));
                    break;
                case SHOW:
                    addToOpenPlace(inName(m, x));
                    break;
                case FETCH:
                    addToName(m, x, openPlace);
                    break;
                case CALL:
                    addToName(methods.callee(m, i), PARAMETER, inOther);
                    addToName(m, x, inName(methods.callee(m, i), RESULT));
                    break;
                default:
                    break;
            }
        }

        private void addToName(int m, int x, int more) {
            if (isOutside(m, MOST_METHODS) || isOutside(x, NAMES)) {
                return;
            }
            int at = m * NAMES + x;
            if ((names[at] | more) != names[at]) {
                names[at] |= more;
                grew = true;
            }
        }

        private void addToOpenPlace(int more) {
            if ((openPlace | more) != openPlace) {
                openPlace |= more;
                grew = true;
            }
        }

        private void addToFields(int holders, int more) {
            for (int s = 0; s < sites.count(); s++) {
                if ((holders >> s & 1) == 1 && (fields[s] | more) != fields[s]) {
                    fields[s] |= more;
                    grew = true;
                }
            }
        }

        private int inFields(int holders) {
            int all = 0;
            for (int s = 0; s < sites.count(); s++) {
                if ((holders >> s & 1) == 1) {
                    all |= fields[s];
                }
            }
            return all;
        }
    }

    /** FATE of all SITES, and the LINES that are IDLE by it. */
    private static final class Fates {
        private final Methods methods;
        private final Sites sites;
        private final MaySets mays;
        private final int[] ofSites = new int[MOST_SITES];
        private final int[] idle = new int[MOST_METHODS];

        Fates(Methods methods, Sites sites, MaySets mays) {
            this.methods = methods;
            this.sites = sites;
            this.mays = mays;
        }

        int ofSite(int s) {
            return isOutside(s, MOST_SITES) ? FATE_KEPT : ofSites[s];
        }

        int idleLines(int m) {
            return isOutside(m, MOST_METHODS) ? 0 : idle[m];
        }

        int countOf(int fate) {
            int count = 0;
            for (int s = 0; s < sites.count(); s++) {
                if (ofSites[s] == fate) {
                    count++;
                }
            }
            return count;
        }

        int keptIn(int m) {
            int count = 0;
            for (int s = 0; s < sites.count(); s++) {
                if (sites.methodOf(s) == m && ofSites[s] == FATE_KEPT) {
                    count++;
                }
            }
            return count;
        }

        void find() {
            int open = mays.reachedFrom(mays.inOpenPlace());
            for (int m = 0; m < methods.count(); m++) {
                int out = mays.reachedFrom(mays.inName(m, PARAMETER) | mays.inName(m, RESULT));
                giveFates(m, open, out);
            }
            int kept = allKept();
            for (int m = 0; m < methods.count(); m++) {
                idle[m] = idleAmong(m, kept);
            }
        }

        private void giveFates(int m, int open, int out) {
            for (int s = 0; s < sites.count(); s++) {
                if (sites.methodOf(s) == m) {
                    ofSites[s] = fateOf(open >> s & 1, out >> s & 1);
                }
            }
        }

        private static int fateOf(int open, int out) {
            if (open == 1) {
                return FATE_OPEN;
            }
            return out == 1 ? FATE_OUT : FATE_KEPT;
        }

        private int allKept() {
            int kept = 0;
            for (int s = 0; s < sites.count(); s++) {
                if (ofSites[s] == FATE_KEPT) {
                    kept |= 1 << s;
                }
            }
            return kept;
        }

        private int idleAmong(int m, int kept) {
            int found = 0;
            for (int i = 0; i < methods.lines(m); i++) {
                int locked = mays.inName(m, methods.name(m, i));
                if (methods.sort(m, i) == LOCK && locked != 0 && (locked & ~kept) == 0) {
                    found |= 1 << i;
                }
            }
            return found;
        }
    }

    /** A RUN. THINGS are numbered as they are made; NONE stands for nothing. */
    private static final class Trial {
        private static final int FIRST_ROOM = 32;

        private final Methods methods;
        private final Sites sites;
        private final Fates fates;

        /** No METHOD is called again while it is CALLED, so one row of NAMES for each will do. */
        private final int[] names = new int[MOST_METHODS * NAMES];
        private int openPlace = NONE;

        private int[] siteOf = new int[FIRST_ROOM];
        private int[] fieldOf = new int[FIRST_ROOM];
        private int[] makerOf = new int[FIRST_ROOM];
        private int[] seenBy = new int[FIRST_ROOM];

        private boolean failed;
        private int made;
        private int locks;
        private int idleLocks;
        private int calls;
        private int leaks;
        private final int[] madeOf = new int[MOST_SITES];
        private final int[] leaksOf = new int[MOST_SITES];
        private final int[] locksOf = new int[MOST_SITES];

        Trial(Methods methods, Sites sites, Fates fates) {
            this.methods = methods;
            this.sites = sites;
            this.fates = fates;
        }

        boolean failed() {
            return failed;
        }

        int made() {
            return made;
        }

        int locks() {
            return locks;
        }

        int idleLocks() {
            return idleLocks;
        }

        int calls() {
            return calls;
        }

        int leaks() {
            return leaks;
        }

        int madeOf(int s) {
            return isOutside(s, MOST_SITES) ? 0 : madeOf[s];
        }

        int leaksOf(int s) {
            return isOutside(s, MOST_SITES) ? 0 : leaksOf[s];
        }

        int locksOf(int s) {
            return isOutside(s, MOST_SITES) ? 0 : locksOf[s];
        }

        int siteInOpenPlace() {
            return isThing(openPlace) ? siteOf[openPlace] : NONE;
        }

        void start() {
            failed = false;
            made = 0;
            locks = 0;
            idleLocks = 0;
            calls = 0;
            leaks = 0;
            openPlace = NONE;
            Arrays.fill(madeOf, 0);
            Arrays.fill(leaksOf, 0);
            Arrays.fill(locksOf, 0);
            if (methods.has(0)) {
                callMethod(0, NONE);
            }
        }

        /** Answers what r holds at the end; m grows with each call inside another, so it is the depth. */
        private int callMethod(int m, int given) {
            if (!methods.has(m)) {
                return NONE;
            }
            calls++;
            int call = calls;
            setName(m, PARAMETER, given);
            for (int x = PARAMETER + 1; x < NAMES; x++) {
                setName(m, x, NONE);
            }
            for (int i = 0; i < methods.lines(m) && !failed; i++) {
                doLine(m, i, call);
            }
            int result = inName(m, RESULT);
            if (!failed) {
                findLeaks(m, call, given, result);
            }
            return result;
        }

        private void doLine(int m, int i, int call) {
            int x = methods.name(m, i);
            int inX = inName(m, x);
            int inOther = inName(m, methods.other(m, i));
            switch (methods.sort(m, i)) {
                case MAKE:
                    setName(m, x, newThing(sites.ofLine(m, i), call));
                    break;
                case COPY:
                    setName(m, x, inOther);
                    break;
                case PUT:
                    putIntoField(inX, inOther);
                    break;
                case TAKE:
                    setName(m, x, takeFromField(inOther));
                    break;
                case SHOW:
                    openPlace = inX;
                    break;
                case FETCH:
                    setName(m, x, openPlace);
                    break;
                case LOCK:
                    lock(inX, fates.idleLines(m) >> i & 1);
                    break;
                default:
                    callFrom(m, i, inOther);
                    break;
            }
        }

        private void callFrom(int m, int i, int given) {
            int callee = methods.callee(m, i);
            if (callee > m) {
                setName(m, methods.name(m, i), callMethod(callee, given));
            }
        }

        private int newThing(int site, int call) {
            if (made >= MOST_THINGS || isOutside(site, MOST_SITES)) {
                return NONE;
            }
            if (made >= siteOf.length) {
                makeMoreRoom();
            }
            siteOf[made] = site;
            fieldOf[made] = NONE;
            makerOf[made] = call;
            seenBy[made] = 0;
            madeOf[site]++;
            made++;
            return made - 1;
        }

        private void makeMoreRoom() {
            int room = siteOf.length * 2;
            siteOf = Arrays.copyOf(siteOf, room);
            fieldOf = Arrays.copyOf(fieldOf, room);
            makerOf = Arrays.copyOf(makerOf, room);
            seenBy = Arrays.copyOf(seenBy, room);
        }

        private void putIntoField(int holder, int thing) {
            if (isThing(holder)) {
                fieldOf[holder] = thing;
            } else {
                failed = true;
            }
        }

        private int takeFromField(int holder) {
            if (isThing(holder)) {
                return fieldOf[holder];
            }
            failed = true;
            return NONE;
        }

        private void lock(int thing, int idle) {
            if (isThing(thing)) {
                locks++;
                idleLocks += idle;
                locksOf[siteOf[thing]]++;
            } else {
                failed = true;
            }
        }

        /** A CALL that ends well has made one THING of each of its SITES; once all are found, enough. */
        private void findLeaks(int m, int call, int given, int result) {
            int left = sites.inMethod(m);
            left = followFrom(result, call, left);
            left = followFrom(given, call, left);
            followFrom(openPlace, call, left);
        }

        private int followFrom(int start, int call, int leftBefore) {
            int left = leftBefore;
            int thing = start;
            for (int step = 0; step < made && left > 0 && isThing(thing) && seenBy[thing] != call; step++) {
                seenBy[thing] = call;
                if (makerOf[thing] == call) {
                    leaks++;
                    leaksOf[siteOf[thing]]++;
                    left--;
                }
                thing = fieldOf[thing];
            }
            return left;
        }

        private boolean isThing(int thing) {
            return thing >= 0 && thing < made;
        }

        private int inName(int m, int x) {
            return isOutside(m, MOST_METHODS) || isOutside(x, NAMES) ? NONE : names[m * NAMES + x];
        }

        private void setName(int m, int x, int thing) {
            if (!isOutside(m, MOST_METHODS) && !isOutside(x, NAMES)) {
                names[m * NAMES + x] = thing;
            }
        }
    }
}
