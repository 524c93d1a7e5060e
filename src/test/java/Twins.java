import java.util.function.Consumer;
import java.util.function.ToLongFunction;

/** Objects with the same past, one of which is asked more: both must then tell the same. */
final class Twins {
    private static final int MOST_STATES = 5;
    private static final int ECHOES_LOOKED_AT = 30;

    private final String call;
    private final GalleryRays asked = new GalleryRays();
    private final GalleryRays silent = new GalleryRays();

    private Twins(String call, Consumer<GalleryRays> past, ToLongFunction<GalleryRays> asks,
            long due) {
        this.call = call;
        past.accept(asked);
        past.accept(silent);
        Due.same(call, asks.applyAsLong(asked), due);
    }

    /** The call has the answer that is due, and changes nothing. */
    static void unchanged(String call, Consumer<GalleryRays> past,
            ToLongFunction<GalleryRays> asks, long due) {
        // Undoing may hide what happened to the buffer, and reading what happened to the history.
        new Twins(call, past, asks, due).sameShotAndHistory();
        new Twins(call, past, asks, due).sameBuffer();
    }

    private void same(String what, ToLongFunction<GalleryRays> tells) {
        Due.same(what + " after " + call, tells.applyAsLong(asked), tells.applyAsLong(silent));
    }

    private void sameShotAndHistory() {
        same("fingerprint()", GalleryRays::fingerprint);
        same("gap()", GalleryRays::gap);
        same("bits of mean()", x -> Float.floatToIntBits(x.mean()));
        same("crossings(200)", x -> x.crossings(200));
        same("crossings(3)", x -> x.crossings(3));
        for (int i = 0; i < ECHOES_LOOKED_AT; i++) {
            int echo = i;
            same("echo(" + i + ")", x -> x.echo(echo));
        }
        for (int undone = 0; undone <= MOST_STATES; undone++) {
            same("undo() number " + undone, GalleryRays::undo);
            same("fingerprint() of state " + undone, GalleryRays::fingerprint);
        }
    }

    private void sameBuffer() {
        same("read()", GalleryRays::read);
        same("what read() makes", GalleryRays::fingerprint);
        same("clear()", GalleryRays::clear);
    }
}
