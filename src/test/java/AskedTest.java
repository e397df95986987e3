/** "What is asked changes nothing": each question, in each state, leaves all that a butler shows as it was. */
public final class AskedTest {
    public static void main(String[] args) {
        for (States.State state : States.ALL) {
            masters(state);
            nights(state);
            seen(state);
            rest(state);
        }
        calledForNothing();
        Run.end();
    }

    private static void masters(States.State state) {
        Run.says("Promises 3, 4, 10 and 14: what is asked changes nothing");
        for (int what = 0; what <= 17; what++) {
            Portrait.unchanged(state, "of", 0, what);
            Portrait.unchanged(state, "of", 5, what);
        }
        for (int n : new int[] {0, 1, 59, 60}) {
            Portrait.unchanged(state, "grip", 0, 0, n);
            Portrait.unchanged(state, "grip", 5, 7, n);
        }
        for (int what = 0; what <= 10; what++) {
            Portrait.unchanged(state, "told", what);
        }
        for (int footman = 0; footman < 5; footman++) {
            Portrait.unchanged(state, "lost", footman);
        }
    }

    private static void nights(States.State state) {
        Run.says("Promises 16, 22 and 24: what is asked changes nothing");
        for (int n : new int[] {0, 1, 60}) {
            for (int what : new int[] {0, 1, 10, 15}) {
                Portrait.unchanged(state, "on", n, what);
            }
            Portrait.unchanged(state, "mean", n, 0);
            Portrait.unchanged(state, "mean", n, 1);
        }
        Portrait.unchanged(state, "ends", 0);
        Portrait.unchanged(state, "ends", 1);
    }

    private static void seen(States.State state) {
        Run.says("Promises 18 to 21 and 26: what is asked changes nothing");
        Portrait.unchanged(state, "wrong");
        Portrait.unchanged(state, "looked");
        for (int p = 0; p < 6; p += 5) {
            for (int what = 0; what < 2; what++) {
                Portrait.unchanged(state, "can", p, what);
                Portrait.unchanged(state, "knew", p, 0, 20, what);
                Portrait.unchanged(state, "knew", p, 255, 0, what);
                Portrait.unchanged(state, "odds", 255 * what, what);
            }
        }
    }

    private static void rest(States.State state) {
        Run.says("Promises 27, 31 to 33 and 36: what is asked changes nothing");
        for (int i = 0; i < 6; i++) {
            Portrait.unchanged(state, "judge", i, 0);
            Portrait.unchanged(state, "judge", i, Run.GREATEST);
            Portrait.unchanged(state, "read", i, 0);
            Portrait.unchanged(state, "trace", i);
            Portrait.unchanged(state, "taken", i, i);
        }
        for (int what = 0; what <= 8; what++) {
            Portrait.unchanged(state, "count", what);
        }
    }

    private static void calledForNothing() {
        Run.says("Promise 15: 0 NIGHTS; Promises 6, 9, 11: what becomes as it was");
        Portrait.unchanged(States.FURNISHED, "pass", 0);
        Portrait.unchanged(States.LATE, "pass", 0);
        Portrait.unchanged(States.FURNISHED, "mind", 0, 203);
        Portrait.unchanged(States.FURNISHED, "tell", 0, 7);
        Portrait.unchanged(States.FURNISHED, "out", 1, true);
        Portrait.unchanged(States.FURNISHED, "out", 0, false);
        Portrait.unchanged(States.FURNISHED, "row", 0, 3, 1);
        Run.says("Promises 17, 23, 25, 34 and 37: none where there are none");
        Portrait.unchanged(States.EMPTY, "see", -1, 0, 0, true);
        Portrait.unchanged(States.EMPTY, "plan", -1, 0);
        Portrait.unchanged(States.EMPTY, "book", -1, 0);
        Portrait.unchanged(States.FURNISHED, "tape", 4, -1, 9);
        Portrait.unchanged(States.FURNISHED, "shift", 0, 4, 1, 3, 0);
        Portrait.unchanged(States.FURNISHED, "shift", 0, 0, 0, 0, 4);
        Run.says("Terms: a PORTRAIT tells states that are not the same from one another");
        Portrait.differ("a fact", States.FURNISHED, "tell", 0, 2);
        Portrait.differ("a row", States.FURNISHED, "row", 0, 3, 2);
        Portrait.differ("a byte", States.FURNISHED, "feed", (int) '1');
        Portrait.differ("an image", States.FURNISHED, "image");
        Portrait.differ("a deed", States.FURNISHED, "deed", 0, 0, 0);
        Portrait.differ("an item", States.FURNISHED, "item", 2, 3, 1);
        Portrait.differ("what is seen", States.FURNISHED, "see", 0, 0, 0, true);
        Portrait.differ("a plan", States.FURNISHED, "plan", 0, 0);
        Portrait.differ("a book", States.FURNISHED, "book", 0, 0);
        Portrait.differ("a trace", States.FURNISHED, "act", 0, 0, 0);
    }
}
