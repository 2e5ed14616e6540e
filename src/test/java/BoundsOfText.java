/** Terms: THE TEXT of 200 bytes at most, its FAULT and where it lies. */
final class BoundsOfText {
    /** Every SORT, three figures that are there, METHODS with and without LINES. */
    private static final String SAMPLE = "{a=new;b=a;a.f=b;b=a.f;G=a;r=3(p);}{}{r=G;lock a;p=3(b);lock r;}{p=new;}";

    /** The first of METHOD 3, which only the whole SAMPLE has. */
    private static final int FIGURE = SAMPLE.indexOf('3');

    private BoundsOfText() {
    }

    static void all() {
        twoHundredBytesAtMost();
        methodsWithLinesNoneOrMore();
        eachLineIsEnded();
        callsWordsAndLetters();
        blanksAnywhereButWithinAWord();
        thePlaceOfTheFirstByte();
        lettersSideBySideAreOneWord();
        gIsByItself();
        aWordThatIsNoneThere();
        theBraceOfA5thMethod();
        theFirstByteOfA9thLine();
        aFigureNotAboveItsMethod();
        theLengthIfItEndsTooEarly();
        emptyOrBlanksAlone();
        aMethodThatIsNotThere();
    }

    private static void twoHundredBytesAtMost() {
        Sentences.test("Terms", "THE TEXT (200 bytes at most)");
        for (int length = 198; length <= 202; length++) {
            String text = "{a=new;" + " ".repeat(length - 8) + "}";
            KeptInside k = new KeptInside();
            Check.typeAll(k, text);
            Check.due("bytes of " + length, k.told(3), Math.min(length, 200));
            Check.due("FULL", k.told(2), Math.max(0, length - 200));
            Check.due("reads()", k.reads(), length <= 200 ? 1 : -10 - 200);
        }
        String full = ("{" + "a=new;".repeat(8) + "}").repeat(4);
        KeptInside k = Check.read(full, 4);
        Check.due("type() of the 201st", k.type('{'), KeptInside.FULL);
        Check.due("it did not come in", k.reads(), 4);
    }

    private static void methodsWithLinesNoneOrMore() {
        Sentences.test("Terms", "is METHODS: each { LINES }, none or more,");
        for (int methods = 0; methods <= 4; methods++) {
            for (int lines = 0; lines <= 8; lines++) {
                KeptInside k = Check.read(("{" + "a=b;".repeat(lines) + "}").repeat(methods), methods);
                for (int m = 0; m < methods; m++) {
                    Check.due("LINES of METHOD " + m, k.of(m, 0), lines);
                }
            }
        }
        Check.fault("a=b;", 0);
        Check.fault("}", 0);
        Check.fault("{{}}", 1);
        Check.fault("{}}", 2);
        Check.fault("{};{}", 2);
        Check.fault("(a=b;)", 0);
    }

    private static void eachLineIsEnded() {
        Sentences.test("Terms", "each LINE ended by ; : as told above");
        for (String line : new String[] {"a=new", "a=b", "a.f=b", "a=b.f", "G=a", "a=G", "lock a", "a=1(b)"}) {
            int end = 1 + line.length();
            Check.read("{" + line + ";}{}", 2);
            Check.fault("{" + line + "}{}", end);
            Check.fault("{" + line + ",}{}", end);
            Check.fault("{" + line + ":}{}", end);
            Check.fault("{" + line + " " + line + ";}{}", end + 1);
            Check.fault("{" + line + ";;}{}", end + 1);
            Check.fault("{;" + line + ";}{}", 1);
        }
    }

    private static void callsWordsAndLetters() {
        Sentences.test("Terms", "(x = 0(y) to x = 3(y) calls; new and lock are words, G and f letters).");
        for (int c = 0; c < 128; c++) {
            if (c == ' ') {
                continue;
            }
            char sign = (char) c;
            figure(sign);
            letterF(sign);
            letterG(sign);
        }
        for (String none : new String[] {"n", "ne", "nev", "neww", "wen", "new0", "newa", "mew", "nfw", "nex", "New", "lock"}) {
            int at = none.equals("new0") ? 6 : 3;
            Check.fault("{a=" + none + ";}", at);
        }
        for (String none : new String[] {"l", "loc", "locks", "kcol", "loch", "mock", "lpck", "lodk", "new", "Lock"}) {
            Check.fault("{" + none + " a;}", 1);
        }
        Check.fault("{lock new;}", 6);
        Check.fault("{new;}", 1);
    }

    private static void figure(char sign) {
        String text = "{a=" + sign + "(b);}{}{}{}";
        if (sign >= '1' && sign <= '3') {
            KeptInside k = Check.read(text, 4);
            Check.due("the METHOD called in " + text, k.line(0, 0, 3), sign - '0');
        } else {
            // a NAME or G can stand there, but not what comes behind it
            boolean other = "pabrG".indexOf(sign) >= 0;
            Check.fault(text, other ? 4 : 3);
        }
    }

    private static void letterF(char sign) {
        if (sign == 'f') {
            Check.read("{a.f=b;}", 1);
            Check.read("{a=b.f;}", 1);
        } else {
            Check.fault("{a." + sign + "=b;}", 3);
            Check.fault("{a=b." + sign + ";}", 5);
        }
    }

    private static void letterG(char sign) {
        boolean well = "pabrG".indexOf(sign) >= 0;
        if (well) {
            Check.read("{" + sign + "=b;}", 1);
            Check.read("{a=" + sign + ";}", 1);
        } else {
            // an end of the METHOD can stand where a LINE begins
            Check.fault("{" + sign + "=b;}", sign == '}' ? 2 : 1);
            Check.fault("{a=" + sign + ";}", sign >= '1' && sign <= '3' ? 4 : 3);
        }
    }

    private static void blanksAnywhereButWithinAWord() {
        Sentences.test("Terms", "Blanks (32) may stand anywhere but within a word.");
        for (int at = 0; at <= SAMPLE.length(); at++) {
            for (int blanks = 1; blanks <= 3; blanks++) {
                String text = SAMPLE.substring(0, at) + " ".repeat(blanks) + SAMPLE.substring(at);
                if (isWithinAWord(at)) {
                    Check.fault(text, wordBegin(at));
                } else {
                    KeptInside k = Check.read(text, 4);
                    Check.due("LINES of METHOD 0", k.of(0, 0), 6);
                    Check.due("the METHOD called", k.line(0, 5, 3), 3);
                }
            }
            // no other byte is a blank
            for (int c : new int[] {0, 9, 10, 11, 12, 13, 31, 33, 95, 127}) {
                String text = SAMPLE.substring(0, at) + (char) c + SAMPLE.substring(at);
                Check.fault(text, isWithinAWord(at) ? wordBegin(at) : at);
            }
        }
        Check.read("  {  a  .  f  =  b  ;  r  =  1  (  p  )  ;  lock    b  ;  G  =  a  ;  }  {  }  ", 2);
        Check.fault("{locka;}", 1);
        Check.fault("{lo ck a;}", 1);
        Check.fault("{a=n ew;}", 3);
    }

    private static boolean isLetter(int at) {
        return at >= 0 && at < SAMPLE.length() && SAMPLE.charAt(at) >= 'a' && SAMPLE.charAt(at) <= 'z';
    }

    private static boolean isWithinAWord(int at) {
        return isLetter(at - 1) && isLetter(at);
    }

    private static int wordBegin(int within) {
        int at = within;
        while (isLetter(at - 1)) {
            at--;
        }
        return at;
    }

    private static void thePlaceOfTheFirstByte() {
        Sentences.test("Terms", "FAULT: the place of the first byte that can not stand there");
        for (int place = 0; place < 200; place++) {
            Check.fault(" ".repeat(place) + "!", place);
        }
        Check.fault("{;}!", 1);
        Check.fault("{a=b;!", 5);
        Check.fault("{a=!b", 3);
        Check.fault("!".repeat(200), 0);
        Check.fault("{" + "}".repeat(199), 2);
        Check.fault("{a==b;}", 3);
        Check.fault("{a.f=b.f;}", 6);
        Check.fault("{a.f=new;}", 5);
        Check.fault("{a.f=G;}", 5);
        Check.fault("{a.f=1(a);}{}", 5);
        Check.fault("{a.f.f=b;}", 4);
        Check.fault("{a=b.f.f;}", 6);
        Check.fault("{G.f=a;}", 2);
        Check.fault("{a=G.f;}", 4);
        Check.fault("{G=new;}", 3);
        Check.fault("{G=G;}", 3);
        Check.fault("{G=1(a);}{}", 3);
        Check.fault("{lock G;}", 6);
        Check.fault("{lock a.f;}", 7);
        Check.fault("{lock=a;}", 5);
        Check.fault("{a=1(G);}{}", 5);
        Check.fault("{a=1(new);}{}", 5);
        Check.fault("{a=1(2(a));}{}{}", 5);
        Check.fault("{a=1();}{}", 5);
        Check.fault("{a=1(a.f);}{}", 6);
        Check.fault("{a=1(a,b);}{}", 6);
        Check.fault("{a=1;}{}", 4);
        Check.fault("{1(a);}{}", 1);
        Check.fault("{a=12(a);}{}{}", 4);
        Check.fault("{a=1 2(a);}{}{}", 5);
    }

    private static void lettersSideBySideAreOneWord() {
        Sentences.test("Terms", "(letters a to z side by side are one word,");
        for (int c = 0; c < 128; c++) {
            boolean letter = c >= 'a' && c <= 'z';
            if (c != ' ') {
                // behind a NAME: another letter makes another word of it, what is no letter does not
                int behind = c == '=' ? 3 : 2;
                Check.fault("{a" + (char) c + "=b" + (char) 0, letter ? 1 : c == '.' ? 3 : behind);
                Check.fault("{lock a" + (char) c + (char) 0, letter ? 6 : c == ';' ? 8 : 7);
            }
        }
        Check.fault("{ab=a;}", 1);
        Check.fault("{a=bb;}", 3);
        Check.fault("{a.ff=b;}", 3);
        Check.fault("{a.fa=b;}", 3);
        Check.fault("{a=newlock a;}", 3);
        Check.fault("{lockb;}", 1);
        Check.fault("{a=1(pp);}{}", 5);
        Check.fault("{a b=a;}", 3);
        Check.fault("{" + "a".repeat(199), 1);
    }

    private static void gIsByItself() {
        Sentences.test("Terms", "G is by itself;");
        Check.read("{a=G;G=a;}", 1);
        Check.fault("{GG=a;}", 2);
        Check.fault("{aG=a;}", 2);
        Check.fault("{Ga=a;}", 2);
        Check.fault("{a=Gb;}", 4);
        Check.fault("{a=bG;}", 4);
        Check.fault("{a=newG;}", 6);
        Check.fault("{a=Gnew;}", 4);
        Check.fault("{lockG;}", 5);
        Check.fault("{Glock a;}", 2);
        Check.fault("{a=GG;}", 4);
        Check.fault("{a=H;}", 3);
        Check.fault("{a=F;}", 3);
    }

    private static void aWordThatIsNoneThere() {
        Sentences.test("Terms", "of a word that is none there, at the end of THE TEXT, too: its first byte;");
        String[] begins = {"{", "{lock ", "{a=", "{G=", "{a.", "{a.f=", "{a=b.", "{a=1("};
        String[] wells = {"p a b r lock", "p a b r", "p a b r new", "p a b r", "f", "p a b r", "f", "p a b r"};
        String[] words = {"p", "a", "b", "r", "f", "new", "lock", "n", "ne", "l", "lo", "loc", "newn", "locka", "pp", "ff",
            "z", "g", "x", "abcdefghijklmnopqrstuvwxyz"};
        for (int k = 0; k < begins.length; k++) {
            for (String word : words) {
                boolean well = (" " + wells[k] + " ").contains(" " + word + " ");
                String text = begins[k] + word;
                int place = begins[k].length();
                Check.fault(text, well ? text.length() : place);
                Check.fault(text + "  ", well ? text.length() + 2 : place);
                Check.fault(text + "!", well ? text.length() : place);
            }
        }
        Check.fault("new", 0);
        Check.fault("  a", 2);
        Check.fault("{}f", 2);
        Check.fault("{a=b;} lock", 7);
        Check.fault("{a b", 3);
        Check.fault("{a=b new", 5);
        Check.fault(" ".repeat(199) + "n", 199);
        Check.fault("{a=" + " ".repeat(196) + "n", 199);
        Check.fault("{a=" + " ".repeat(195) + "ne", 198);
        Check.fault("{a=" + " ".repeat(194) + "new", 200);
    }

    private static void theBraceOfA5thMethod() {
        Sentences.test("Terms", "the { of a 5th METHOD;");
        Check.read("{}{}{}", 3);
        Check.read("{}{}{}{}", 4);
        Check.read("{}{}{}{}  ", 4);
        Check.fault("{}{}{}{}{}", 8);
        Check.fault("{}{}{}{}{", 8);
        Check.fault("{}{}{}{}  {}", 10);
        Check.fault("{}{}{}{}{}{}", 8);
        Check.fault("{}{}{}{a=b;}{a=b;}", 12);
        Check.fault(" {}{}{}{}" + " ".repeat(190) + "{", 199);
        Check.fault("{}{}{}{}}", 8);
        Check.fault("{}{}{}{}a", 8);
    }

    private static void theFirstByteOfA9thLine() {
        Sentences.test("Terms", "the first byte of a 9th LINE;");
        for (int m = 0; m < 4; m++) {
            String ahead = "{}".repeat(m) + "{";
            String eight = ahead + "a=b;".repeat(8);
            Check.read(ahead + "a=b;".repeat(7) + "}", m + 1);
            Check.read(eight + "}", m + 1);
            Check.read(eight + "  }", m + 1);
            for (String line : new String[] {"a=new;", "b=a;", "p.f=b;", "r=b.f;", "G=a;", "a=G;", "lock a;", "a=1(b);"}) {
                Check.fault(eight + line + "}", eight.length());
                Check.fault(eight + "  " + line + "}", eight.length() + 2);
                Check.fault(eight + line.charAt(0), eight.length());
            }
            Check.fault(eight + "loc", eight.length());
            Check.fault(eight + "!", eight.length());
            Check.fault(eight, eight.length());
            Check.fault(eight + "  ", eight.length() + 2);
        }
        String most = "{" + "a=b;".repeat(8) + "}";
        Check.read(most.repeat(4), 4);
        Check.fault(most.repeat(3) + "{" + "a=b;".repeat(9) + "}", 135);
    }

    private static void aFigureNotAboveItsMethod() {
        Sentences.test("Terms", "a figure not above the number of its METHOD);");
        for (int m = 0; m < 4; m++) {
            for (int called = 0; called < 4; called++) {
                String text = "{}".repeat(m) + "{a=b;a= " + called + "(b);}" + "{}".repeat(3 - m);
                if (called > m) {
                    Check.read(text, 4);
                } else {
                    Check.fault(text, 2 * m + 8);
                    Check.fault(text.substring(0, 2 * m + 9), 2 * m + 8);
                }
            }
        }
        // it is a FAULT ahead of one of a METHOD that is not there
        Check.fault("{a=3(b);}{a=1(b);}", 12);
    }

    private static void theLengthIfItEndsTooEarly() {
        Sentences.test("Terms", "the TEXT's length, if it ends too early");
        for (int length = 1; length < SAMPLE.length(); length++) {
            String begin = SAMPLE.substring(0, length);
            if (isWithinAWord(length)) {
                Check.fault(begin, wordBegin(length));
            } else if (begin.endsWith("}")) {
                Check.fault(begin, FIGURE);
            } else {
                Check.fault(begin, length);
                Check.fault(begin + " ", length + 1);
                Check.fault(begin + " ".repeat(199 - length), 199);
                Check.fault(begin + " ".repeat(200 - length), 200);
            }
        }
        Check.read(SAMPLE, 4);
        Check.fault("{}{", 3);
        Check.fault("{}{}{}{", 7);
    }

    private static void emptyOrBlanksAlone() {
        Sentences.test("Terms", "(an empty one, one of blanks alone: no METHODS, no FAULT).");
        for (int blanks : new int[] {0, 1, 2, 199, 200}) {
            KeptInside k = Check.read(" ".repeat(blanks), 0);
            Check.told(blanks + " blanks", k, 0, 0, 0, blanks, 0, 0, 1);
            KeptInside had = Check.read("{a=new;}", 1);
            had.clear();
            Check.typeAll(had, " ".repeat(blanks));
            Check.due("reads() of " + blanks + " blanks, there being METHODS", had.reads(), 0);
            Check.told(blanks + " blanks", had, 0, 0, 0, blanks, 0, 0, 2);
        }
        Check.fault(" \t", 1);
        Check.fault("" + (char) 0, 0);
    }

    private static void aMethodThatIsNotThere() {
        Sentences.test("Terms", "If all else is well, but a METHOD is called that is not there: the place of the first such figure.");
        Check.read("{a=1(a);}{}", 2);
        Check.fault("{a=1(a);}", 3);
        Check.fault("{a=2(a);}{}", 3);
        Check.read("{a=2(a);}{}{}", 3);
        Check.fault("{a=3(a);}{}{}", 3);
        Check.read("{a=3(a);}{}{}{}", 4);
        Check.fault("{a=1(a);b=3(a);a=2(a);}{}", 10);
        Check.fault("{a=1(a);b=2(a);a=3(a);}{}", 10);
        Check.fault("{a=1(a);}{b=3(a);}", 12);
        Check.fault("{a=3(a);}{b=2(a);}{}", 3);
        Check.fault("{}{b=3(a);b=2(a);}{}", 5);
        Check.fault("{}{}{b=3(a);}", 7);
        Check.fault("{ a = 3 ( a ) ; } ", 6);
        Check.fault("{a=" + " ".repeat(191) + "3(a);}", 194);
        // all else is not well
        Check.fault("{a=3(a);}!", 9);
        Check.fault("{a=3(a);", 8);
        Check.fault("{a=3(a)", 7);
        Check.fault("{a=3", 4);
        Check.fault("{a=3(a);b=0(a);}", 10);
        Check.fault("{a=2(a);}{}{", 12);
    }
}
