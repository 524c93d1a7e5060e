/**
 * The bounds that the head TEXTS and promises 8 to 10 name: what holds just inside of each and
 * just outside. A test for each sentence, which stands above it.
 */
public final class TextEdgeTest {
    private static final int N = 27720;
    private static final int BAD = GalleryRays.BAD;
    private static final int FULL = GalleryRays.FULL;
    private static final int SOAK = 0;
    private static final int BACK = 1;
    private static final int TILT = 2;
    private static final int SPLIT = 3;
    private static final int HEAR = 4;

    public static void main(String[] args) {
        sixtyCharacters();
        codesEnd();
        emptyAtFirst();
        clearTellsTheLength();
        oneOrMoreParts();
        semicolonsBetweenParts();
        wordsAsTheyAre();
        wordsStopAtTheFirstWrongSign();
        colonAndPlus();
        commaForSoakTiltSplitOnly();
        minusForTiltSplitOnly();
        oneToFiveDigits();
        lengthIfItEndsTooEarly();
        fullBufferIsRead();
        firstPlacesEnd();
        numbersOfPlacesEnd();
        soaksEnd();
        tiltsEnd();
        splitsEnd();
        firstNumberOutOfRange();
        formComesBeforeRange();
        bufferIsEmptyThen();
        bufferStaysWithAnError();
        numberOfPartsIsAnswered();
        atMostTwelveParts();
        errorComesBeforeFull();
        oneAct();
        Due.finish();
    }

    /** What read() answers, on a new wall, to a text. */
    private static void reads(String text, int due) {
        GalleryRays x = new GalleryRays();
        Due.type(x, text);
        Due.same("read() of \"" + text + "\"", x.read(), due);
        Due.same("parts() after \"" + text + "\"", x.parts(), due < 0 ? 0 : due);
        Due.same("clear() after \"" + text + "\"", x.clear(), due < 0 ? text.length() : 0);
        Due.same("undo() after \"" + text + "\"", x.undo(), due < 0 ? GalleryRays.NONE : 0);
    }

    private static void fails(String text, int place) {
        reads(text, -200 - place);
    }

    /** A text of one part, and what it makes. */
    private static void makes(String text, int kind, int first, int many, int k) {
        GalleryRays x = new GalleryRays();
        Due.type(x, text);
        Due.same("read() of \"" + text + "\"", x.read(), 1);
        Due.part(x, 0, kind, first, many, k);
    }

    private static GalleryRays wallOf(int parts) {
        GalleryRays x = new GalleryRays();
        for (int i = 0; i < parts; i++) {
            x.add(SOAK, i, 1, i);
        }
        return x;
    }

    // ---- the buffer

    /** "a buffer of at most 60 characters". */
    private static void sixtyCharacters() {
        GalleryRays x = new GalleryRays();
        for (int i = 1; i <= 60; i++) {
            Due.same("type number " + i, x.type('a'), i);
        }
        Due.same("type number 61", x.type('a'), FULL);
        Due.same("type number 61 again", x.type('b'), FULL);
        Due.same("clear()", x.clear(), 60);
        Due.same("type into the emptied one", x.type('a'), 1);
    }

    /** "codes from 32 to 126". */
    private static void codesEnd() {
        GalleryRays x = new GalleryRays();
        int[] bad = {31, 127, 0, -1, 128, 256 + 65, 65536 + 65, Integer.MIN_VALUE,
            Integer.MAX_VALUE};
        for (int c : bad) {
            Due.same("type(" + c + ")", x.type(c), BAD);
        }
        for (int c = 32; c < 32 + 60; c++) {
            Due.same("type(" + c + ")", x.type(c), c - 31);
        }
        Due.same("clear()", x.clear(), 60);
        for (int c = 92; c <= 126; c++) {
            Due.same("type(" + c + ")", x.type(c), c - 91);
        }
        Due.same("type(127)", x.type(127), BAD);
        Due.same("clear()", x.clear(), 35);
    }

    /** "initially empty". */
    private static void emptyAtFirst() {
        Due.same("clear() at first", new GalleryRays().clear(), 0);
        Due.same("read() at first", new GalleryRays().read(), -200);
        Due.same("type() at first", new GalleryRays().type(' '), 1);
    }

    /** Promise 9: "the number of characters that it had". */
    private static void clearTellsTheLength() {
        GalleryRays x = new GalleryRays();
        int[] lengths = {0, 1, 2, 59, 60, 0};
        for (int length : lengths) {
            for (int i = 0; i < length; i++) {
                x.type('x');
            }
            Due.same("clear() of " + length, x.clear(), length);
            Due.same("clear() again", x.clear(), 0);
        }
    }

    // ---- the form of a text

    /** "one or more parts with ";" between them". */
    private static void oneOrMoreParts() {
        fails("", 0);
        reads("hear:1+1", 1);
        reads("hear:1+1;hear:1+1", 2);
        reads("hear:1+1;hear:1+1;hear:1+1;hear:1+1;hear:1+1;hear:1+1", 6);
    }

    /** Nothing but ";" stands between parts, and none before the first or after the last one. */
    private static void semicolonsBetweenParts() {
        fails(";", 0);
        fails(";hear:1+1", 0);
        fails("hear:1+1;", 9);
        fails("hear:1+1;;hear:1+1", 9);
        fails("hear:1+1 hear:1+1", 8);
        fails("hear:1+1:hear:1+1", 8);
        fails("hear:1+1hear:1+1", 8);
        fails("hear:1+1; hear:1+1", 9);
        fails("hear:1+1;hear:1+1;", 18);
        fails("soak:1+1,1;tilt:1+1,1;", 22);
    }

    /** "one of the words "soak", "back", "tilt", "split" or "hear"". */
    private static void wordsAsTheyAre() {
        makes("soak:1+2,3", SOAK, 1, 2, 3);
        makes("back:1+2", BACK, 1, 2, 0);
        makes("tilt:1+2,3", TILT, 1, 2, 3);
        makes("split:1+2,3", SPLIT, 1, 2, 3);
        makes("hear:1+2", HEAR, 1, 2, 0);
    }

    /** "the index of the first character that cannot stand at its place", within a word. */
    private static void wordsStopAtTheFirstWrongSign() {
        String[] words = {"soak", "back", "tilt", "split", "hear"};
        for (String word : words) {
            for (int i = 0; i < word.length(); i++) {
                String start = word.substring(0, i);
                fails(start, i);
                fails(start + "~", i);
                fails(start + ":1+1", i);
                fails(start + Character.toUpperCase(word.charAt(i)), i);
                fails("hear:1+1;" + start, 9 + i);
                fails("hear:1+1;" + start + " ", 9 + i);
            }
            fails(word, word.length());
            fails(word + word.charAt(word.length() - 1), word.length());
        }
        fails("sp", 2);
        fails("so", 2);
        fails("soit", 2);
        fails("spak", 2);
        fails("seak", 1);
        fails("bear", 1);
        fails("tear", 1);
        fails("heak", 3);
    }

    /** "":", a number (the first place), "+", a number (the number of places)". */
    private static void colonAndPlus() {
        fails("hear;1+1", 4);
        fails("hear 1+1", 4);
        fails("hear1+1", 4);
        fails("hear::1+1", 5);
        fails("hear:+1", 5);
        fails("hear:a+1", 5);
        fails("hear:-1+1", 5);
        fails("hear:1-1", 6);
        fails("hear:1,1", 6);
        fails("hear:1;1", 6);
        fails("hear:1++1", 7);
        fails("hear:1+-1", 7);
        fails("hear:1+;", 7);
        fails("hear:1 +1", 6);
        fails("hear:1+ 1", 7);
        fails("hear:1+1+", 8);
        fails("hear:1/+1", 6);
        fails("hear:1:+1", 6);
        fails("hear:/+1", 5);
        fails("hear::+1", 5);
    }

    /** "and for soak, tilt and split "," and k". */
    private static void commaForSoakTiltSplitOnly() {
        fails("soak:1+1", 8);
        fails("tilt:1+1", 8);
        fails("split:1+1", 9);
        fails("soak:1+1;", 8);
        fails("tilt:1+1;", 8);
        fails("split:1+1;", 9);
        fails("soak:1+1,", 9);
        fails("tilt:1+1,", 9);
        fails("split:1+1,", 10);
        fails("soak:1+1,,1", 9);
        fails("soak:1+1,1,1", 10);
        fails("tilt:1+1,1,1", 10);
        fails("back:1+1,", 8);
        fails("back:1+1,0", 8);
        fails("hear:1+1,0", 8);
    }

    /** "k: a number, for tilt and split perhaps with "-" before it". */
    private static void minusForTiltSplitOnly() {
        makes("tilt:1+1,-1", TILT, 1, 1, -1);
        makes("split:1+1,-1", SPLIT, 1, 1, -1);
        makes("tilt:1+1,-0", TILT, 1, 1, 0);
        makes("split:1+1,-00000", SPLIT, 1, 1, 0);
        fails("soak:1+1,-1", 9);
        fails("soak:1+1,-0", 9);
        fails("tilt:1+1,-", 10);
        fails("split:1+1,-", 11);
        fails("tilt:1+1,--1", 10);
        fails("tilt:1+1,+1", 9);
        fails("tilt:1+1,1-", 10);
        fails("tilt:1+1,-;", 10);
        fails("tilt:1+1,- 1", 10);
        fails("tilt:-1+1,1", 5);
        fails("tilt:1+-1,1", 7);
    }

    /** "A number has one to five digits", "(a sixth digit cannot)". */
    private static void oneToFiveDigits() {
        makes("hear:0+1", HEAR, 0, 1, 0);
        makes("hear:00000+00001", HEAR, 0, 1, 0);
        makes("hear:00009+1", HEAR, 9, 1, 0);
        makes("hear:12345+23456", HEAR, 12345, 23456, 0);
        makes("hear:10000+20000", HEAR, 10000, 20000, 0);
        makes("soak:1+1,01000", SOAK, 1, 1, 1000);
        makes("tilt:1+1,-09999", TILT, 1, 1, -9999);
        fails("hear:000000+1", 10);
        fails("hear:123456+1", 10);
        fails("hear:1+000001", 12);
        fails("hear:12345+123456", 16);
        fails("soak:1+1,000000", 14);
        fails("tilt:1+1,000000", 14);
        fails("tilt:1+1,-000000", 15);
        fails("split:1+1,-099990", 16);
        fails("hear:+1", 5);
        fails("hear:1+", 7);
    }

    /** "or its length if it ends too early": after each character of a text. */
    private static void lengthIfItEndsTooEarly() {
        String text = "split:123+45,-6;hear:7+8";
        for (int length = 0; length < text.length(); length++) {
            boolean isWhole = length == text.indexOf(';');
            reads(text.substring(0, length), isWhole ? 1 : -200 - length);
        }
        reads(text, 2);
    }

    /** A text may fill the buffer, and may end too early there. */
    private static void fullBufferIsRead() {
        String full = "split:00001+00002,-00003;soak:00004+00005,00006;hear:11+123";
        Due.same("length", full.length(), 59);
        reads(full, 3);
        reads(full + "4", 3);
        fails(full.substring(0, 47) + ";hear:11+12;", 59);
        fails(full.substring(0, 47) + ";hear:11+123;", 60);
        fails(full.substring(0, 47) + ";hear:11+123+", 59);
        GalleryRays x = new GalleryRays();
        Due.type(x, full + "4");
        Due.same("type into a full buffer", x.type('5'), FULL);
        Due.same("read()", x.read(), 3);
        Due.part(x, 2, HEAR, 11, 1234, 0);
    }

    // ---- the ranges of a text

    /** "the first place greater than N - 1". */
    private static void firstPlacesEnd() {
        makes("hear:0+1", HEAR, 0, 1, 0);
        makes("hear:27719+1", HEAR, N - 1, 1, 0);
        fails("hear:27720+1", 5);
        fails("hear:99999+1", 5);
        fails("split:27720+1,1", 6);
    }

    /** "the number of places 0 or greater than N". */
    private static void numbersOfPlacesEnd() {
        fails("hear:0+0", 7);
        fails("hear:0+00000", 7);
        makes("hear:0+1", HEAR, 0, 1, 0);
        makes("hear:0+27720", HEAR, 0, N, 0);
        makes("hear:27719+27720", HEAR, N - 1, N, 0);
        fails("hear:0+27721", 7);
        fails("hear:0+99999", 7);
    }

    /** "k as above": for soak 0 to 1000. */
    private static void soaksEnd() {
        makes("soak:5+6,0", SOAK, 5, 6, 0);
        makes("soak:5+6,1000", SOAK, 5, 6, 1000);
        fails("soak:5+6,1001", 9);
        fails("soak:5+6,99999", 9);
    }

    /** "k as above": for tilt -9999 to 9999; "(its digit, not "-")". */
    private static void tiltsEnd() {
        makes("tilt:5+6,9999", TILT, 5, 6, 9999);
        makes("tilt:5+6,-9999", TILT, 5, 6, -9999);
        makes("tilt:5+6,1001", TILT, 5, 6, 1001);
        fails("tilt:5+6,10000", 9);
        fails("tilt:5+6,-10000", 10);
        fails("tilt:5+6,99999", 9);
        fails("tilt:5+6,-99999", 10);
    }

    /** "k as above": for split as for tilt. */
    private static void splitsEnd() {
        makes("split:5+6,9999", SPLIT, 5, 6, 9999);
        makes("split:5+6,-9999", SPLIT, 5, 6, -9999);
        fails("split:5+6,10000", 10);
        fails("split:5+6,-10000", 11);
    }

    /** "the index of the first character of the first such number". */
    private static void firstNumberOutOfRange() {
        fails("hear:27720+0", 5);
        fails("soak:27720+0,1001", 5);
        fails("soak:0+0,1001", 7);
        fails("soak:0+1,1001;hear:27720+1", 9);
        fails("tilt:0+1,-10000;tilt:0+1,10000", 10);
        fails("hear:0+1;hear:0+0;hear:27720+0", 16);
        fails("hear:0+1;hear:0+1;hear:27720+0", 23);
    }

    /** "if there is none, but a number is out of its range": the form is looked at first. */
    private static void formComesBeforeRange() {
        fails("hear:27720+1;", 13);
        fails("hear:27720", 10);
        fails("hear:27720+", 11);
        fails("hear:27720+1,", 12);
        fails("soak:0+0", 8);
        fails("soak:0+1,1001x", 13);
        fails("tilt:0+1,-10000;b", 17);
        fails("hear:99999+999999", 16);
    }

    // ---- promise 10

    /** "The buffer is empty then". */
    private static void bufferIsEmptyThen() {
        GalleryRays x = new GalleryRays();
        Due.type(x, "hear:1+1");
        Due.same("read()", x.read(), 1);
        Due.same("read() again", x.read(), -200);
        Due.same("type after it", x.type('h'), 1);
        Due.same("read() of one sign", x.read(), -201);
    }

    /** "(with an error it stays)": a text may be mended by what is typed after it. */
    private static void bufferStaysWithAnError() {
        GalleryRays x = new GalleryRays();
        Due.type(x, "hear:1+");
        Due.same("read() too early", x.read(), -207);
        Due.same("type goes on", x.type('1'), 8);
        Due.same("read()", x.read(), 1);
        GalleryRays y = wallOf(12);
        Due.type(y, "hear:1+1");
        Due.same("read() onto a full wall", y.read(), FULL);
        Due.same("type goes on", y.type('2'), 9);
        Due.same("remove(0)", y.remove(0), 11);
        Due.same("read() with room", y.read(), 1);
        Due.part(y, 11, HEAR, 1, 12, 0);
    }

    /** "Returns the number of parts of the text": not that of the wall. */
    private static void numberOfPartsIsAnswered() {
        GalleryRays x = wallOf(3);
        Due.type(x, "hear:1+1;back:2+2");
        Due.same("read()", x.read(), 2);
        Due.same("parts()", x.parts(), 5);
        Due.part(x, 2, SOAK, 2, 1, 2);
        Due.part(x, 3, HEAR, 1, 1, 0);
        Due.part(x, 4, BACK, 2, 2, 0);
    }

    /** "FULL if there would be more than 12 parts". */
    private static void atMostTwelveParts() {
        int[][] due = {{11, 1, 1}, {12, 1, FULL}, {10, 2, 2}, {11, 2, FULL}, {6, 6, 6},
            {7, 6, FULL}, {12, 6, FULL}, {7, 5, 5}, {8, 5, FULL}};
        for (int[] d : due) {
            GalleryRays x = wallOf(d[0]);
            Due.type(x, "back:7+8");
            for (int i = 1; i < d[1]; i++) {
                Due.type(x, ";back:7+8");
            }
            String call = "read() of " + d[1] + " onto " + d[0];
            Due.same(call, x.read(), d[2]);
            Due.same("parts() after " + call, x.parts(), d[2] == FULL ? d[0] : d[0] + d[1]);
            Due.same("clear() after " + call, x.clear(), d[2] == FULL ? 9 * d[1] - 1 : 0);
            Due.same("undo() after " + call, x.undo(), 4);
            Due.same("parts() then", x.parts(), d[2] == FULL ? d[0] - 1 : d[0]);
        }
    }

    /** Of an error of the text and FULL the first one listed is answered. */
    private static void errorComesBeforeFull() {
        GalleryRays x = wallOf(12);
        Due.same("read() of nothing", x.read(), -200);
        Due.type(x, "hear:1+0");
        Due.same("read() of a bad number", x.read(), -207);
        x.clear();
        Due.type(x, "hear:1+1");
        Due.same("read() without an error", x.read(), FULL);
        x.type(';');
        Due.same("read() of a bad form", x.read(), -209);
    }

    /** "This is one act." */
    private static void oneAct() {
        GalleryRays x = new GalleryRays();
        Due.type(x, "hear:1+1;back:2+2;hear:3+3");
        Due.same("read()", x.read(), 3);
        Due.same("undo()", x.undo(), 0);
        Due.same("parts()", x.parts(), 0);
        Due.same("undo() again", x.undo(), GalleryRays.NONE);
        Due.same("the buffer does not come back", x.clear(), 0);
    }
}
