import java.util.List;

/** Checks of calls at and beyond the bounds of the document, in each scene. */
final class Bounds {
    static final int UNKNOWN = -1, OUTSIDE = -2, STATE = -3, FULL = -4, NO = -5, NONE = -6;
    static final long GONE_OUTSIDE = -1000000000000000002L;
    static final int LEAST = Integer.MIN_VALUE;
    static final int GREATEST = Integer.MAX_VALUE;

    /** Beyond all bounds; some would be within if one kept only their low bits, or their amount. */
    static final int[] FAR = {LEAST, LEAST + 1, -65536 + 49, -256, -7, 65536 + 49, 65537 + 5, 1 << 20, 1 << 30,
        GREATEST - 1, GREATEST};

    private final Due due;

    Bounds(Due due) {
        this.due = due;
    }

    /** A call of the object. */
    interface Asked {
        long of(TicketWheel x);
    }

    /** A call of the object with one argument that a check chooses. */
    interface AskedWith {
        long of(TicketWheel x, int value);
    }

    /** The call answers so, and all that shows the state answers as on an object that it was not asked of. */
    void still(Scene scene, String sentence, long want, Asked call) {
        String where = sentence + " (" + scene + ")";
        TicketWheel x = scene.make();
        due.equal(where, call.of(x), want);
        sameLook(where + " changed nothing", x, scene.make());
    }

    /** The same, in each scene. */
    void stillInEach(String sentence, long want, Asked call) {
        for (Scene scene : Scene.values()) {
            still(scene, sentence, want, call);
        }
    }

    /** What is just below these bounds, just above them, and far off, is answered so. */
    void beyond(Scene scene, String sentence, int least, int greatest, long want, AskedWith call) {
        still(scene, sentence + ": just below", want, x -> call.of(x, least - 1));
        still(scene, sentence + ": just above", want, x -> call.of(x, greatest + 1));
        for (int far : FAR) {
            still(scene, sentence + ": " + far, want, x -> call.of(x, far));
        }
    }

    void beyondInEach(String sentence, int least, int greatest, long want, AskedWith call) {
        for (Scene scene : Scene.values()) {
            beyond(scene, sentence, least, greatest, want, call);
        }
    }

    void sameLook(String claim, TicketWheel x, TicketWheel other) {
        List<String> got = Scene.look(x);
        List<String> want = Scene.look(other);
        for (int i = 0; i < Math.max(got.size(), want.size()); i++) {
            String have = i < got.size() ? got.get(i) : "nothing";
            String should = i < want.size() ? want.get(i) : "nothing";
            if (!have.equals(should)) {
                due.holds(claim + ": " + have + " where it was " + should, false);
                return;
            }
        }
        due.holds(claim, true);
    }
}
