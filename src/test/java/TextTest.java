/** Promises 8 to 10: the buffer and the texts in it. */
public final class TextTest {
    private static final int BAD = GalleryRays.BAD;
    private static final int FULL = GalleryRays.FULL;

    public static void main(String[] args) {
        typeAndClear();
        readsParts();
        readsEdges();
        tellsErrorPlaces();
        tellsNumbersOutOfRange();
        readFills();
        readIsOneAct();
        Due.finish();
    }

    private static void typeAndClear() {
        GalleryRays x = new GalleryRays();
        Due.same("type(31)", x.type(31), BAD);
        Due.same("type(127)", x.type(127), BAD);
        Due.same("type(-1)", x.type(-1), BAD);
        Due.same("type(32 + 65536)", x.type(32 + 65536), BAD);
        Due.same("type(MIN)", x.type(Integer.MIN_VALUE), BAD);
        Due.same("type(MAX)", x.type(Integer.MAX_VALUE), BAD);
        Due.same("clear() after refusals", x.clear(), 0);
        Due.same("type(32)", x.type(32), 1);
        Due.same("type(126)", x.type(126), 2);
        Due.same("clear()", x.clear(), 2);
        Due.same("clear() again", x.clear(), 0);
        for (int i = 1; i <= 60; i++) {
            Due.same("type number " + i, x.type(65), i);
        }
        Due.same("type when full", x.type(65), FULL);
        Due.same("type of a bad code when full", x.type(31), BAD);
        Due.same("clear() when full", x.clear(), 60);
        Due.same("type after clear()", x.type(65), 1);
        Due.same("typing is no act", x.undo(), GalleryRays.NONE);
    }

    private static void readsParts() {
        GalleryRays x = new GalleryRays();
        Due.type(x, "soak:1+2,3;back:4+5;tilt:6+7,-8;split:9+10,11;hear:12+13");
        Due.same("read()", x.read(), 5);
        Due.same("parts()", x.parts(), 5);
        Due.part(x, 0, 0, 1, 2, 3);
        Due.part(x, 1, 1, 4, 5, 0);
        Due.part(x, 2, 2, 6, 7, -8);
        Due.part(x, 3, 3, 9, 10, 11);
        Due.part(x, 4, 4, 12, 13, 0);
        Due.same("clear() after read()", x.clear(), 0);
        Due.same("read() of the empty buffer", x.read(), -200);
        Due.type(x, "hear:7+7");
        Due.same("read() of one more", x.read(), 1);
        Due.part(x, 5, 4, 7, 7, 0);
        Due.same("parts()", x.parts(), 6);
    }

    private static void readsEdges() {
        GalleryRays x = new GalleryRays();
        Due.type(x, "soak:27719+27720,1000;tilt:00000+00001,-09999");
        Due.same("read() of edges", x.read(), 2);
        Due.part(x, 0, 0, 27719, 27720, 1000);
        Due.part(x, 1, 2, 0, 1, -9999);
        Due.type(x, "split:0+1,9999;tilt:0+1,-0;soak:0+1,0;split:0+1,-00001");
        Due.same("read() of more edges", x.read(), 4);
        Due.part(x, 2, 3, 0, 1, 9999);
        Due.part(x, 3, 2, 0, 1, 0);
        Due.part(x, 4, 0, 0, 1, 0);
        Due.part(x, 5, 3, 0, 1, -1);
    }

    /** Each text with the index of the first character that cannot stand, or its length. */
    private static void tellsErrorPlaces() {
        error("", 0);
        error("x", 0);
        error(" soak:1+1,1", 0);
        error("Soak:1+1,1", 0);
        error(";", 0);
        error("s", 1);
        error("st", 1);
        error("sp", 2);
        error("sob", 2);
        error("spl", 3);
        error("splat", 3);
        error("soap", 3);
        error("soak", 4);
        error("soaks", 4);
        error("split", 5);
        error("splitt", 5);
        error("hit", 1);
        error("bach", 3);
        error("tile", 3);
        error("soa:1+1,1", 3);
        error("sp:1+1,1", 2);
        error(":1+1", 0);
        error("hear", 4);
        error("hear ", 4);
        error("hear:", 5);
        error("hear:+", 5);
        error("hear:-1+1", 5);
        error("hear:1", 6);
        error("hear:1-", 6);
        error("hear:12345", 10);
        error("hear:123456+1", 10);
        error("hear:1+", 7);
        error("hear:1+-", 7);
        error("hear:1+1,", 8);
        error("hear:1+1,0", 8);
        error("hear:1+123456", 12);
        error("hear:1+1;", 9);
        error("hear:1+1;;", 9);
        error("hear:1+1; hear:1+1", 9);
        error("hear:1+1:", 8);
        error("back:1+1,0", 8);
        error("soak:1+1", 8);
        error("soak:1+1;", 8);
        error("soak:1+1,", 9);
        error("soak:1+1,-", 9);
        error("soak:1+1,-1", 9);
        error("soak:1+1,100000", 14);
        error("soak:1+1,1,", 10);
        error("tilt:1+1", 8);
        error("tilt:1+1,-", 10);
        error("tilt:1+1,--1", 10);
        error("tilt:1+1,+1", 9);
        error("tilt:1+1,-123456", 15);
        error("split:1+1,-1-", 12);
        error("split:1+1,1;sp", 14);
        error("split:1+1,1;spa", 14);
        error("split:1+1,1;hear:1+1;q", 21);
    }

    private static void tellsNumbersOutOfRange() {
        error("hear:27720+1", 5);
        error("hear:99999+1", 5);
        error("hear:0+0", 7);
        error("hear:0+00000", 7);
        error("hear:0+27721", 7);
        error("hear:27720+0", 5);
        error("soak:0+1,1001", 9);
        error("soak:0+1,99999", 9);
        error("tilt:0+1,10000", 9);
        error("tilt:0+1,-10000", 10);
        error("split:0+1,10000", 10);
        error("split:0+1,-10000", 11);
        error("hear:0+1;hear:0+0", 16);
        error("tilt:0+1,-10000;hear:0+0", 10);
        // An error of form comes first, wherever it stands.
        error("hear:27720+1;", 13);
        error("hear:27720+1x", 12);
        error("soak:0+0", 8);
        error("tilt:0+1,-10000;b", 17);
        error("hear:27720+123456", 16);
    }

    private static void error(String text, int place) {
        GalleryRays x = new GalleryRays();
        Due.type(x, text);
        Due.same("read() of \"" + text + "\"", x.read(), -200 - place);
        Due.same("read() again of \"" + text + "\"", x.read(), -200 - place);
        Due.same("parts() after \"" + text + "\"", x.parts(), 0);
        Due.same("undo() after \"" + text + "\"", x.undo(), GalleryRays.NONE);
        Due.same("clear() after \"" + text + "\"", x.clear(), text.length());
    }

    private static void readFills() {
        GalleryRays x = new GalleryRays();
        for (int i = 0; i < 10; i++) {
            x.add(4, i, 1, 0);
        }
        Due.type(x, "hear:1+1;hear:2+2;hear:3+3");
        Due.same("read() of too many", x.read(), FULL);
        Due.same("parts() after FULL", x.parts(), 10);
        Due.type(x, ";");
        Due.same("an error comes before FULL", x.read(), -200 - 27);
        Due.same("the buffer stays", x.clear(), 27);
        Due.type(x, "hear:1+1;hear:2+2");
        Due.same("read() of just enough", x.read(), 2);
        Due.same("parts()", x.parts(), 12);
        Due.part(x, 11, 4, 2, 2, 0);
        Due.type(x, "hear:1+1");
        Due.same("read() when full", x.read(), FULL);
        Due.same("the buffer stays", x.clear(), 8);
        Due.same("undo()", x.undo(), 4);
        Due.same("parts() after undo()", x.parts(), 10);
        GalleryRays y = new GalleryRays();
        Due.type(y, "hear:1+1;hear:2+2;back:3+3;back:4+4;hear:5+5;hear:6+6");
        Due.same("read() of six", y.read(), 6);
        Due.type(y, "hear:1+1;hear:2+2;back:3+3;back:4+4;hear:5+5;hear:6+6");
        Due.same("read() of six more", y.read(), 6);
        Due.part(y, 11, 4, 6, 6, 0);
    }

    private static void readIsOneAct() {
        GalleryRays x = new GalleryRays();
        x.add(0, 1, 2, 3);
        Due.type(x, "hear:1+1;hear:2+2");
        Due.same("read()", x.read(), 2);
        Due.type(x, "ab");
        Due.same("undo() of read()", x.undo(), 1);
        Due.same("parts() after undo()", x.parts(), 1);
        Due.part(x, 0, 0, 1, 2, 3);
        Due.same("undo() leaves the buffer", x.clear(), 2);
    }
}
