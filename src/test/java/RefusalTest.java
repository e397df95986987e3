/**
 * "What is answered so changes nothing": for each refused call, that it answers as told, and that all a butler
 * shows is the same behind it.
 */
public final class RefusalTest {
    private static final States.State[] FILLED = {States.FURNISHED, States.CROWDED};
    private static final int LEAST = Run.LEAST, GREATEST = Run.GREATEST;

    public static void main(String[] args) {
        ofEveryState();
        masters();
        mastersFull();
        minds();
        deeds();
        footmen();
        rows();
        texts();
        faults();
        nights();
        asked();
        handRows();
        handRowsFull();
        images();
        acts();
        tapes();
        items();
        shifts();
        Run.end();
    }

    private static void refused(States.State[] states, long want, String name, Object... with) {
        for (States.State state : states) {
            Portrait.refused(state, want, name, with);
        }
    }

    private static void ofEveryState() {
        Run.says("NONE (-1) no such number: in every state");
        for (int far : new int[] {-2, 6, LEAST, GREATEST}) {
            refused(States.ALL, -1, "master", far == 6 ? 7 : far, 0);
            refused(States.ALL, -1, "of", far, 0);
            refused(States.ALL, -10001, "grip", far, 0, 0);
            refused(States.ALL, -1, "tell", far, 0);
            refused(States.ALL, -1, "mind", far, 0);
            refused(States.ALL, -1, "deed", far, 0, 0);
            refused(States.ALL, -1, "out", far, true);
            refused(States.ALL, -1, "lost", far);
            refused(States.ALL, -1, "row", far, 0, 0);
            refused(States.ALL, -1, "see", far, 0, 0, true);
            refused(States.ALL, -1, "can", far, 0);
            refused(States.ALL, -1, "knew", far, 0, 0, 0);
            refused(States.ALL, -1, "plan", far, 0);
            refused(States.ALL, -1, "plan", 2, far);
            refused(States.ALL, -1, "book", far, 0);
            refused(States.ALL, -1, "judge", far, 0);
            refused(States.ALL, -11, "taken", far, 0);
            refused(States.ALL, -1, "tape", far, 0, 0);
            refused(States.ALL, -1, "item", far, 0, 0);
            refused(States.ALL, Run.NO, "read", far, 0);
            refused(States.ALL, -1, "shift", far, 0, 0, 0, 1);
            refused(States.ALL, -1, "shift", 0, 0, far, 0, 1);
        }
    }

    private static void masters() {
        Run.says("Promise 2: NONE: kind; BAD: v");
        for (int kind : new int[] {-1, 7, LEAST, GREATEST}) {
            refused(States.ALL, -1, "master", kind, 0);
        }
        for (int v : new int[] {-1, 10, LEAST, GREATEST}) {
            refused(States.ALL, -2, "master", 0, v);
        }
    }

    private static void mastersFull() {
        Run.says("Promise 2: FULL: 6");
        Portrait.refused(States.CROWDED, -4, "master", 0, 0);
        Portrait.refused(States.CROWDED, -4, "master", 6, 9);
    }

    private static void minds() {
        Run.says("Promise 5: NONE; Promise 6: NONE; BAD");
        for (int fact : new int[] {-1, 8, 31, 32, LEAST, GREATEST}) {
            refused(FILLED, -1, "tell", 0, fact);
        }
        for (int facts : new int[] {-1, 256, LEAST, GREATEST}) {
            refused(FILLED, -2, "mind", 0, facts);
            refused(FILLED, -1, "mind", 6, facts);
        }
        Portrait.refused(States.FURNISHED, -1, "tell", 3, 0);
        Portrait.refused(States.FURNISHED, -1, "mind", 3, 0);
    }

    private static void deeds() {
        Run.says("Promise 7: NONE: master; BAD: facts, due; FULL: 8");
        for (int facts : new int[] {-1, 256, LEAST, GREATEST}) {
            refused(FILLED, -2, "deed", 0, facts, 0);
        }
        for (int due : new int[] {-1, 21, LEAST, GREATEST}) {
            refused(FILLED, -2, "deed", 0, 1, due);
        }
        Portrait.refused(States.FURNISHED, -1, "deed", 3, 0, 0);
        Portrait.refused(States.CROWDED, -4, "deed", 0, 255, 0);
        Portrait.refused(States.CROWDED, -4, "deed", 5, 0, 20);
    }

    private static void footmen() {
        Run.says("Promise 8: BAD: facts; FULL: 5; Promises 9 and 10: NONE");
        for (int facts : new int[] {-1, 256, LEAST, GREATEST}) {
            refused(States.ALL, -2, "footman", facts);
        }
        Portrait.refused(States.CROWDED, -4, "footman", 255);
        Portrait.refused(States.CROWDED, -4, "footman", 0);
        Portrait.refused(States.CROWDED, -1, "out", 5, true);
        Portrait.refused(States.CROWDED, -1, "lost", 5);
        Portrait.refused(States.FURNISHED, -1, "out", 3, true);
        Portrait.refused(States.FURNISHED, -1, "out", 3, false);
        Portrait.refused(States.FURNISHED, -1, "out", -1, true);
        Portrait.refused(States.FURNISHED, -1, "lost", 3);
    }

    private static void rows() {
        Run.says("Promise 11: NONE: master, part; BAD; STATE: another KIND");
        for (int part : new int[] {-1, 4, LEAST, GREATEST}) {
            Portrait.refused(States.FURNISHED, -1, "row", 0, part, 9);
            Portrait.refused(States.CROWDED, -1, "row", 5, part, 9);
        }
        for (int n : new int[] {-1, 10, LEAST, GREATEST}) {
            Portrait.refused(States.FURNISHED, -2, "row", 0, 0, n);
            Portrait.refused(States.CROWDED, -2, "row", 5, 3, n);
        }
        for (int p = 0; p < 5; p++) {
            Portrait.refused(States.CROWDED, -3, "row", p, p % 4, 9);
        }
    }

    private static void texts() {
        Run.says("Promise 12: BAD; FULL");
        for (int sign : new int[] {-1, 128, LEAST, GREATEST}) {
            refused(States.ALL, -2, "feed", sign);
        }
        Portrait.refused(States.CROWDED, -4, "feed", 0);
        Portrait.refused(States.CROWDED, -4, "feed", (int) ';');
        Portrait.refused(States.CROWDED, -4, "feed", 127);
        Run.says("Promise 13: FULL: there are 6 (THE TEXT stays)");
        Portrait.refused(States.CROWDED, -4, "house");
    }

    private static void faults() {
        Run.says("Promise 13: -10 less the FAULT: all but THE TEXT is as it was");
        Portrait.refused(States.EMPTY, -10, "house");
        Portrait.refused(States.LATE, -10, "house");
        for (String text : new String[] {"k", "lose 9 p<9;", "lose 9 p<9;hours 1;x", "keep 9 p<9;hours 123"}) {
            Portrait.same("a FAULT of " + text + " changed", States.LATE, x -> {
                States.LATE.lead(x);
                Run.note(text + " is no house", x.text(text).call("house") <= -10);
            });
        }
    }

    private static void nights() {
        Run.says("Promise 15: BAD; STATE: it would be above 9999");
        for (int n : new int[] {-1, 61, LEAST, GREATEST}) {
            refused(States.ALL, -2, "pass", n);
        }
        Portrait.refused(States.LATE, -3, "pass", 1);
        Portrait.refused(States.LATE, -3, "pass", 60);
        Run.says("Promise 16: NONE; BAD: n");
        for (int n : new int[] {-1, 61, LEAST, GREATEST}) {
            refused(States.ALL, -2, "on", n, 0);
            refused(FILLED, -2, "on", n, 10);
            refused(States.ALL, -1, "on", n, 2);
        }
    }

    private static void asked() {
        Run.says("what is asked, and refused, changes nothing");
        refused(States.ALL, -1, "told", -1);
        refused(States.ALL, -1, "told", 11);
        refused(States.ALL, -2, "count", -1);
        refused(States.ALL, -2, "count", 9);
        refused(States.ALL, -1, "ends", -1);
        refused(States.ALL, -1, "ends", 2);
        refused(States.ALL, -1, "trace", -1);
        refused(States.ALL, -1, "trace", 20);
        refused(States.ALL, -2, "taken", 0, 7);
        refused(States.ALL, Run.NO, "odds", 256, 0);
        refused(States.ALL, Run.NO, "odds", 0, 2);
        refused(States.ALL, Run.NO, "mean", 61, 0);
        refused(States.ALL, Run.NO, "mean", 0, -1);
        refused(FILLED, -1, "of", 0, 4);
        refused(FILLED, -1, "of", 0, 18);
        refused(FILLED, -10001, "grip", 0, 8, 0);
        refused(FILLED, -10002, "grip", 0, 0, 61);
        refused(FILLED, -10002, "grip", 0, 0, -1);
        refused(FILLED, -1, "can", 0, 2);
        refused(FILLED, -1, "knew", 0, 0, 0, 2);
        refused(FILLED, -2, "knew", 0, 256, 0, 0);
        refused(FILLED, -2, "knew", 0, 0, 21, 1);
        Portrait.refused(States.FURNISHED, -12, "taken", 0, 4);
        Portrait.refused(States.FURNISHED, -12, "judge", 2, 0);
    }

    private static void handRows() {
        Run.says("Promise 17: NONE: master, fact; BAD: n");
        for (int fact : new int[] {-1, 8, LEAST, GREATEST}) {
            refused(FILLED, -1, "see", 0, fact, 0, false);
        }
        for (int n : new int[] {-1, 21, LEAST, GREATEST}) {
            refused(FILLED, -2, "see", 0, 0, n, false);
        }
        Run.says("Promise 23: NONE: what, master, fact (by 1), master (by 2)");
        for (int n : new int[] {-1, -10, 8, 9, 60, 70, LEAST, GREATEST}) {
            refused(FILLED, -1, "plan", 1, n);
        }
        refused(FILLED, -1, "plan", 3, 0);
        refused(FILLED, -1, "plan", 2, -1);
        Portrait.refused(States.FURNISHED, -1, "plan", 1, 30);
        Portrait.refused(States.FURNISHED, -1, "plan", 2, 3);
        Run.says("Promise 25: NONE; BAD: facts");
        for (int facts : new int[] {-1, 256, LEAST, GREATEST}) {
            refused(FILLED, -2, "book", 0, facts);
        }
        Portrait.refused(States.FURNISHED, -1, "book", 3, 0);
        Portrait.refused(States.FURNISHED, -1, "see", 3, 0, 0, true);
    }

    private static void handRowsFull() {
        Run.says("Promises 17, 23 and 25: FULL");
        Portrait.refused(States.CROWDED, -4, "see", 0, 0, 0, false);
        Portrait.refused(States.CROWDED, -4, "see", 5, 7, 20, true);
        Portrait.refused(States.CROWDED, -4, "plan", 0, 0);
        Portrait.refused(States.CROWDED, -4, "plan", 1, 57);
        Portrait.refused(States.CROWDED, -4, "plan", 2, 5);
        Portrait.refused(States.CROWDED, -4, "book", 5, 0);
        Portrait.refused(States.CROWDED, -4, "book", 0, 255);
    }

    private static void images() {
        Run.says("Promise 29: STATE: there is none");
        Portrait.refused(States.EMPTY, -3, "undo");
        Portrait.refused(States.LATE, -3, "undo");
    }

    private static void acts() {
        Run.says("Promise 30: 0, and no TRACE then: nothing else has changed");
        for (States.State state : new States.State[] {States.EMPTY, States.CROWDED, States.LATE}) {
            Portrait.refused(state, 0, "act", 6, 0, 9);
            Portrait.refused(state, 0, "act", -1, 0, 9);
            Portrait.refused(state, 0, "act", 0, 3, 9);
            Portrait.refused(state, 0, "act", 0, -1, 9);
        }
    }

    private static void tapes() {
        Run.says("Promise 34: NONE: tape; BAD: sort, n above 60; SIZE");
        for (int tape : new int[] {0, 3, 4, 5}) {
            refused(FILLED, -2, "tape", tape, -2, 3);
            refused(FILLED, -2, "tape", tape, 5, 3);
            refused(FILLED, -2, "tape", tape, 1, 61);
            refused(FILLED, -2, "tape", tape, 1, GREATEST);
            refused(FILLED, -14, "tape", tape, 1, -1);
            refused(FILLED, -14, "tape", tape, 1, LEAST);
        }
        refused(States.ALL, -1, "tape", -1, -1, 0);
    }

    private static void items() {
        Run.says("Promise 35: NONE; NOTHING; PLACE; Promise 36: NO");
        Portrait.refused(States.FURNISHED, -11, "item", 4, 0, 1);
        Portrait.refused(States.FURNISHED, Run.NO, "read", 4, 0);
        for (int i : new int[] {-1, 4, 60, LEAST, GREATEST}) {
            Portrait.refused(States.FURNISHED, -13, "item", 0, i, 1);
            Portrait.refused(States.FURNISHED, Run.NO, "read", 0, i);
        }
        for (int tape = 0; tape < 6; tape++) {
            Portrait.refused(States.CROWDED, -13, "item", tape, 60, 1);
            Portrait.refused(States.CROWDED, -13, "item", tape, -1, 1);
        }
    }

    private static void shifts() {
        Run.says("Promise 37: NONE: tapes; NOTHING; CAST; PLACE");
        Portrait.refused(States.FURNISHED, -1, "shift", -1, 0, 1, 0, 1);
        Portrait.refused(States.FURNISHED, -1, "shift", 0, 0, -1, 0, 1);
        Portrait.refused(States.FURNISHED, -11, "shift", 0, 0, 4, 0, 1);
        Portrait.refused(States.FURNISHED, -11, "shift", 4, 0, 0, 0, 1);
        Portrait.refused(States.FURNISHED, -12, "shift", 0, 0, 2, 0, 1);
        Portrait.refused(States.FURNISHED, -12, "shift", 2, 4, 3, 0, 1);
        Portrait.refused(States.FURNISHED, -13, "shift", 0, 0, 1, 0, 4);
        Portrait.refused(States.FURNISHED, -13, "shift", 0, 3, 1, 0, 2);
        Portrait.refused(States.FURNISHED, -13, "shift", 0, -1, 1, 0, 2);
        Portrait.refused(States.FURNISHED, -13, "shift", 0, 0, 1, -1, 2);
        Portrait.refused(States.FURNISHED, -13, "shift", 0, 0, 1, 0, -1);
        Portrait.refused(States.FURNISHED, -13, "shift", 0, 2, 0, 3, 2);
        Portrait.refused(States.FURNISHED, -13, "shift", 0, GREATEST, 1, 0, 1);
        Portrait.refused(States.FURNISHED, -13, "shift", 0, 1, 1, GREATEST, 2);
        Portrait.refused(States.FURNISHED, -13, "shift", 0, 1, 1, 1, GREATEST);
        Portrait.refused(States.CROWDED, -13, "shift", 0, 1, 5, 0, 60);
        Portrait.refused(States.CROWDED, -13, "shift", 5, 0, 0, 1, 60);
    }
}
