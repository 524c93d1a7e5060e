/** Counts the answers of one test class and prints those that are not the ones due. */
final class Due {
    private static int asked = 0;
    private static int wrong = 0;

    private Due() {
    }

    static void same(String call, double got, double want) {
        asked++;
        if (got != want) {
            wrong++;
            System.out.println(call + " answered " + got + ", due is " + want);
        }
    }

    static void same(String call, long got, long want) {
        asked++;
        if (got != want) {
            wrong++;
            System.out.println(call + " answered " + got + ", due is " + want);
        }
    }

    static void holds(String claim, boolean held) {
        asked++;
        if (!held) {
            wrong++;
            System.out.println("does not hold: " + claim);
        }
    }

    static boolean anyWrong() {
        return wrong != 0;
    }

    /** To be called last: a test that asked nothing has failed too. */
    static void finish() {
        System.out.println(asked + " answers, " + wrong + " of them not as due");
        if (wrong != 0 || asked == 0) {
            System.exit(1);
        }
    }

    static GalleryRays wall(int loss, int threshold) {
        GalleryRays x = new GalleryRays();
        x.setLoss(loss);
        x.setThreshold(threshold);
        return x;
    }

    /** Types a text, each character of which must be taken. */
    static void type(GalleryRays x, String text) {
        for (int i = 0; i < text.length(); i++) {
            int got = x.type(text.charAt(i));
            if (got < 1) {
                same("type " + text.charAt(i), got, 1);
            }
        }
    }

    static void part(GalleryRays x, int part, int kind, int first, int many, int k) {
        same("kind of part " + part, x.part(part, 0), kind);
        same("first place of part " + part, x.part(part, 1), first);
        same("places of part " + part, x.part(part, 2), many);
        same("k of part " + part, x.part(part, 3), k);
    }

    static void hit(GalleryRays x, int i, long ray, long place, long time, long energy, long step) {
        same("ray of hit " + i, x.hit(i, 0), ray);
        same("place of hit " + i, x.hit(i, 1), place);
        same("time of hit " + i, x.hit(i, 2), time);
        same("energy of hit " + i, x.hit(i, 3), energy);
        same("step of hit " + i, x.hit(i, 4), step);
    }
}
