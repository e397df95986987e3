/** The edges that the document names for tapes and judging: promises 27 and 34 to 37. */
public final class TapeBoundsTest {
    private static final int[] NO_TAPES = {-1, 6, 7, Run.LEAST, Run.GREATEST};
    private static final int[] FAR = {Run.LEAST, Run.LEAST + 1, Run.GREATEST - 60, Run.GREATEST - 5, Run.GREATEST};

    public static void main(String[] args) {
        nothingAtFirst();
        tapeNumbers();
        sizes();
        holdsNothing();
        allZero();
        itemOrder();
        places();
        bytes();
        shorts();
        ints();
        longs();
        booleans();
        shiftOrder();
        shiftPlaces();
        shiftFar();
        shiftNone();
        shiftOverItself();
        shiftWhole();
        judgeOrder();
        judgeNobody();
        judgeRowEnds();
        judgeFar();
        judgeOtherwise();
        Run.end();
    }

    private static void nothingAtFirst() {
        Run.says("Terms: TAPES 0 .. 5 hold nothing (at first)");
        Run x = new Run();
        for (int t = 0; t < 6; t++) {
            x.due(-11, "item", t, 0, 0).due(Run.NO, "read", t, 0).due(-11, "shift", t, 0, t, 0, 0);
        }
    }

    private static void tapeNumbers() {
        Run.says("Promise 34: NONE: tape");
        Run x = new Run();
        for (int t : NO_TAPES) {
            x.due(-1, "tape", t, 0, 0).due(-1, "tape", t, -1, 0).due(-1, "tape", t, 5, 61).due(-1, "tape", t, 0, -1);
        }
        Run.says("Promise 34: sort -1, 0 .. 4; BAD: sort");
        for (int sort : new int[] {-2, 5, Run.LEAST, Run.GREATEST}) {
            x.due(-2, "tape", 0, sort, 0).due(-2, "tape", 0, sort, -1).due(-2, "tape", 0, sort, 61);
        }
        for (int sort = 0; sort <= 4; sort++) {
            x.due(1, "tape", 0, sort, 1).due(0, "read", 0, 0).due(1, "tape", 5, sort, 1).due(0, "read", 5, 0);
        }
    }

    private static void sizes() {
        Run.says("Promise 34: n (0 .. 60); BAD: n above 60; SIZE: below 0");
        for (int sort = 0; sort <= 4; sort++) {
            Run x = new Run().due(1, "tape", 0, sort, 0).due(Run.NO, "read", 0, 0).due(-13, "item", 0, 0, 1);
            x.due(1, "tape", 0, sort, 60).due(0, "read", 0, 59).due(Run.NO, "read", 0, 60);
            x.due(1, "item", 0, 59, 1).due(-13, "item", 0, 60, 1);
            x.due(-2, "tape", 0, sort, 61).due(-2, "tape", 0, sort, Run.GREATEST);
            x.due(-14, "tape", 0, sort, -1).due(-14, "tape", 0, sort, Run.LEAST).due(1, "read", 0, 59);
        }
    }

    private static void holdsNothing() {
        Run.says("Promise 34: or holds nothing (sort -1: n does not matter)");
        for (int n : new int[] {0, -1, 61, Run.LEAST, Run.GREATEST}) {
            Run x = new Run().does("tape", 2, 3, 4).does("item", 2, 0, 9).due(1, "tape", 2, -1, n);
            x.due(-11, "item", 2, 0, 1).due(Run.NO, "read", 2, 0).due(1, "tape", 2, -1, n);
        }
    }

    private static void allZero() {
        Run.says("Promise 34: a row of n of a sort, all 0");
        for (int sort = 0; sort <= 4; sort++) {
            Run x = new Run().does("tape", 1, sort, 3).does("item", 1, 0, -1).does("item", 1, 2, -1);
            x.due(1, "tape", 1, sort, 3).due(0, "read", 1, 0).due(0, "read", 1, 2);
            x.does("item", 1, 2, -1).due(1, "tape", 1, -1, 0).due(1, "tape", 1, sort, 60).due(0, "read", 1, 2);
            x.does("item", 1, 59, -1).due(1, "tape", 1, sort, 1).due(Run.NO, "read", 1, 1).due(1, "tape", 1, sort, 60);
            x.due(0, "read", 1, 59);
        }
    }

    private static void itemOrder() {
        Run.says("Promise 35: NONE; NOTHING; PLACE");
        Run x = new Run();
        for (int t : NO_TAPES) {
            x.due(-1, "item", t, 0, 1).due(-1, "item", t, -1, 1).due(Run.NO, "read", t, 0);
        }
        x.due(-11, "item", 0, -1, 1).due(-11, "item", 0, 60, 1).does("tape", 0, 3, 0).due(-13, "item", 0, 0, 1);
    }

    private static void places() {
        Run.says("Promise 35: PLACE; Promise 36: NO: no such place");
        Run x = new Run().does("tape", 0, 3, 2).does("item", 0, 0, 5).does("item", 0, 1, 6);
        for (int i : new int[] {-1, 2, 3, 59, 60, 61}) {
            x.due(-13, "item", 0, i, 9).due(Run.NO, "read", 0, i);
        }
        for (int i : FAR) {
            x.due(-13, "item", 0, i, 9).due(Run.NO, "read", 0, i);
        }
        x.due(5, "read", 0, 0).due(6, "read", 0, 1);
    }

    private static void cut(int sort, long v, long want) {
        new Run().does("tape", 0, sort, 3).due(1, "item", 0, 1, v).due(want, "read", 0, 1)
            .due(0, "read", 0, 0).due(0, "read", 0, 2);
    }

    private static void bytes() {
        Run.says("Promise 35: its lowest bits, as many as an item has: bytes");
        cut(0, 127, 127);
        cut(0, 128, -128);
        cut(0, 255, -1);
        cut(0, 256, 0);
        cut(0, -128, -128);
        cut(0, -129, 127);
        cut(0, 1L << 32, 0);
        cut(0, Long.MAX_VALUE, -1);
        cut(0, Long.MIN_VALUE, 0);
    }

    private static void shorts() {
        Run.says("Promise 35: its lowest bits, as many as an item has: shorts");
        cut(1, 32767, 32767);
        cut(1, 32768, -32768);
        cut(1, 65535, -1);
        cut(1, 65536, 0);
        cut(1, -32768, -32768);
        cut(1, -32769, 32767);
        cut(1, Long.MAX_VALUE, -1);
        cut(1, Long.MIN_VALUE, 0);
    }

    private static void ints() {
        Run.says("Promise 35: its lowest bits, as many as an item has: ints");
        cut(2, Integer.MAX_VALUE, Integer.MAX_VALUE);
        cut(2, 1L << 31, Integer.MIN_VALUE);
        cut(2, (1L << 32) - 1, -1);
        cut(2, 1L << 32, 0);
        cut(2, Integer.MIN_VALUE, Integer.MIN_VALUE);
        cut(2, Integer.MIN_VALUE - 1L, Integer.MAX_VALUE);
        cut(2, Long.MAX_VALUE, -1);
        cut(2, Long.MIN_VALUE, 0);
    }

    private static void longs() {
        Run.says("Promise 35: its lowest bits, as many as an item has: longs");
        cut(3, Long.MAX_VALUE, Long.MAX_VALUE);
        cut(3, Long.MIN_VALUE + 1, Long.MIN_VALUE + 1);
        cut(3, Long.MIN_VALUE, Long.MIN_VALUE);
        cut(3, 1L << 32, 1L << 32);
        cut(3, -1, -1);
    }

    private static void booleans() {
        Run.says("Promise 35: booleans: whether v is not 0");
        cut(4, 0, 0);
        cut(4, 1, 1);
        cut(4, 2, 1);
        cut(4, -1, 1);
        cut(4, 256, 1);
        cut(4, 1L << 32, 1);
        cut(4, Long.MIN_VALUE, 1);
        new Run().does("tape", 0, 4, 1).does("item", 0, 0, 5).does("item", 0, 0, 0).due(0, "read", 0, 0);
    }

    private static Run rows() {
        Run x = new Run().does("tape", 0, 2, 5).does("tape", 1, 2, 3).does("tape", 2, 1, 5).does("tape", 5, 2, 60);
        for (int i = 0; i < 5; i++) {
            x.does("item", 0, i, i + 1);
        }
        return x;
    }

    private static void holds(Run x, int tape, int... items) {
        for (int i = 0; i < items.length; i++) {
            x.due(items[i], "read", tape, i);
        }
        x.due(Run.NO, "read", tape, items.length);
    }

    private static void shiftOrder() {
        Run.says("Promise 37: NONE: tapes; NOTHING; CAST; PLACE");
        Run x = rows();
        for (int t : NO_TAPES) {
            x.due(-1, "shift", t, 0, 0, 0, 1).due(-1, "shift", 0, 0, t, 0, 1);
            x.due(-1, "shift", t, 0, 3, 0, 1).due(-1, "shift", 3, -1, t, 0, -1);
        }
        x.due(-11, "shift", 3, 0, 0, 0, 1).due(-11, "shift", 0, 0, 3, 0, 1).due(-11, "shift", 3, 0, 4, 0, 1);
        x.due(-11, "shift", 3, -1, 2, 0, -1).due(-11, "shift", 2, 99, 3, 0, 0);
        Run.says("Promise 37: CAST: of unlike sorts, ahead of PLACE");
        x.due(-12, "shift", 0, 0, 2, 0, 1).due(-12, "shift", 2, 0, 0, 0, 1).due(-12, "shift", 0, 0, 2, 0, 0);
        x.due(-12, "shift", 0, -1, 2, 0, 1).due(-12, "shift", 0, 0, 2, 0, -1).due(-12, "shift", 0, 0, 2, 0, 99);
        for (int one = 0; one < 5; one++) {
            for (int other = 0; other < 5; other++) {
                new Run().does("tape", 0, one, 1).does("tape", 1, other, 1)
                    .due(one == other ? 1 : -12, "shift", 0, 0, 1, 0, 1);
            }
        }
    }

    private static void shiftPlaces() {
        Run.says("Promise 37: PLACE: n, i or j is below 0, or beyond either's end");
        Run x = rows();
        x.due(-13, "shift", 0, 0, 1, 0, -1).due(-13, "shift", 0, -1, 1, 0, 1).due(-13, "shift", 0, 0, 1, -1, 1);
        x.due(-13, "shift", 0, 5, 1, 0, 1).due(-13, "shift", 0, 4, 1, 0, 2).due(-13, "shift", 0, 0, 1, 3, 1);
        x.due(-13, "shift", 0, 0, 1, 2, 2).due(-13, "shift", 0, 0, 1, 0, 4).due(-13, "shift", 1, 0, 0, 0, 4);
        x.due(-13, "shift", 5, 0, 0, 0, 6).due(-13, "shift", 0, 0, 5, 0, 6).due(-13, "shift", 5, 1, 5, 0, 60);
        x.due(-13, "shift", 0, -1, 1, 0, 0).due(-13, "shift", 0, 0, 1, -1, 0);
        holds(x, 0, 1, 2, 3, 4, 5);
        holds(x, 1, 0, 0, 0);
        Run.says("Promise 37: the last places that are there");
        x.due(1, "shift", 0, 4, 1, 2, 1);
        holds(x, 1, 0, 0, 5);
        x.due(3, "shift", 0, 2, 1, 0, 3);
        holds(x, 1, 3, 4, 5);
        x.due(5, "shift", 0, 0, 5, 55, 5).due(5, "read", 5, 59).due(1, "read", 5, 55).due(0, "read", 5, 54);
    }

    private static void shiftFar() {
        Run.says("Promise 37: PLACE near the greatest and the least int");
        Run x = rows();
        for (int far : FAR) {
            x.due(-13, "shift", 0, far, 1, 0, 1).due(-13, "shift", 0, 0, 1, far, 1).due(-13, "shift", 0, 0, 1, 0, far);
            x.due(-13, "shift", 0, 1, 1, 1, far).due(-13, "shift", 0, far, 1, far, far).due(-13, "shift", 0, far, 0, 0, 0);
            x.due(-13, "shift", 0, 0, 0, far, 0).due(-13, "shift", 0, far, 1, 0, Run.GREATEST);
        }
        holds(x, 0, 1, 2, 3, 4, 5);
        holds(x, 1, 0, 0, 0);
    }

    private static void shiftNone() {
        Run.says("Promise 37: n 0: at the ends, and beyond them");
        Run x = rows().due(0, "shift", 0, 0, 1, 0, 0).due(0, "shift", 0, 5, 1, 3, 0).due(0, "shift", 0, 5, 0, 5, 0);
        x.due(-13, "shift", 0, 6, 1, 0, 0).due(-13, "shift", 0, 0, 1, 4, 0);
        new Run().does("tape", 0, 2, 0).due(0, "shift", 0, 0, 0, 0, 0).due(-13, "shift", 0, 1, 0, 0, 0)
            .due(-13, "shift", 0, 0, 0, 0, 1);
        holds(x, 0, 1, 2, 3, 4, 5);
    }

    private static void shiftOverItself() {
        Run.says("Promise 37: or the same, as they all were before");
        Run x = rows().due(4, "shift", 0, 0, 0, 1, 4);
        holds(x, 0, 1, 1, 2, 3, 4);
        Run y = rows().due(4, "shift", 0, 1, 0, 0, 4);
        holds(y, 0, 2, 3, 4, 5, 5);
        Run z = rows().due(3, "shift", 0, 0, 0, 2, 3).due(5, "shift", 0, 0, 0, 0, 5);
        holds(z, 0, 1, 2, 1, 2, 3);
    }

    private static void shiftWhole() {
        Run.says("Promise 37: 60 items, and other items stay");
        Run x = rows().does("tape", 4, 2, 60);
        for (int i = 0; i < 60; i++) {
            x.does("item", 5, i, i + 7);
        }
        x.due(60, "shift", 5, 0, 4, 0, 60);
        for (int i = 0; i < 60; i++) {
            x.due(i + 7, "read", 4, i);
        }
        x.due(1, "shift", 0, 0, 4, 59, 1).due(1, "read", 4, 59).due(65, "read", 4, 58).due(66, "read", 5, 59);
    }

    private static void judgeOrder() {
        Run.says("Promise 27: NONE: tape");
        Run x = new Run().does("master", 0, 0);
        for (int t : NO_TAPES) {
            x.due(-1, "judge", t, 0).due(-1, "judge", t, -1);
        }
        Run.says("Promise 27: CAST: it is no row of shorts, wherever the place is");
        for (int sort : new int[] {0, 2, 3, 4}) {
            x.does("tape", 0, sort, 1);
            for (int i : new int[] {0, -1, 1, Run.LEAST, Run.GREATEST}) {
                x.due(-12, "judge", 0, i);
            }
            x.does("tape", 0, sort, 0).due(-12, "judge", 0, 0);
        }
        Run.says("Terms: 100, if the TAPE holds nothing");
        x.due(100, "judge", 5, 0).due(100, "judge", 5, -1).due(100, "judge", 5, Run.GREATEST);
        x.does("tape", 0, -1, 0).due(100, "judge", 0, 0);
    }

    private static void judgeNobody() {
        Run.says("Terms: JUDGED: -5: there are no MASTERS");
        Run x = new Run().does("tape", 0, 1, 3).does("item", 0, 0, 9).does("tape", 1, 1, 0).does("tape", 2, 4, 3);
        for (int i : new int[] {0, 3, 4, -1, Run.LEAST, Run.GREATEST}) {
            x.due(-5, "judge", 0, i).due(-5, "judge", 1, i).due(-5, "judge", 3, i);
        }
        x.due(-12, "judge", 2, 0).due(-1, "judge", 6, 0);
    }

    private static Run told(int masters, int size) {
        Run x = new Run().does("tape", 0, 1, size);
        for (int p = 0; p < masters; p++) {
            x.does("master", 0, 0).does("mind", p, 200 + p);
        }
        return x;
    }

    private static void judgeRowEnds() {
        Run.says("Terms: JUDGED: 100 and how many were looked at, if the row ends ahead of that");
        Run x = told(6, 60);
        for (int p = 0; p < 6; p++) {
            x.does("item", 0, 54 + p, 200 + p);
        }
        x.due(-5, "judge", 0, 54);
        for (int size = 0; size <= 6; size++) {
            Run y = told(6, size);
            for (int p = 0; p < size; p++) {
                y.does("item", 0, p, 200 + p);
            }
            y.due(size == 6 ? -5 : 100 + size, "judge", 0, 0);
            y.due(100, "judge", 0, size).due(100, "judge", 0, size + 1).due(100, "judge", 0, -1);
        }
        Run.says("Terms: JUDGED from a place on: so many as are left");
        Run z = told(3, 4).does("item", 0, 2, 200).does("item", 0, 3, 201).due(102, "judge", 0, 2);
        z.does("item", 0, 3, 200).due(101, "judge", 0, 3).due(0, "judge", 0, 1).due(1, "judge", 0, 2);
    }

    private static void judgeFar() {
        Run.says("Terms: JUDGED: 100, if the place is below 0, or beyond the end");
        Run x = told(6, 60);
        for (int i : FAR) {
            x.due(100, "judge", 0, i);
        }
        for (int p = 0; p < 6; p++) {
            x.due(100, "judge", 0, Run.GREATEST - p).due(100, "judge", 0, Run.LEAST + p).due(100, "judge", 0, -1 - p);
        }
        x.due(100, "judge", 0, 60).due(100, "judge", 0, 61).due(0, "judge", 0, 59);
    }

    private static void judgeOtherwise() {
        Run.says("Terms: JUDGED: the first that is otherwise; -5: none");
        Run x = told(6, 6);
        for (int p = 0; p < 6; p++) {
            x.due(p, "judge", 0, 0).does("item", 0, p, 200 + p);
        }
        x.due(-5, "judge", 0, 0).does("item", 0, 5, 205 - 256).due(5, "judge", 0, 0).does("item", 0, 5, 205 + 256);
        x.due(5, "judge", 0, 0).does("item", 0, 5, 205 + 65536).due(-5, "judge", 0, 0);
        x.does("mind", 0, 0).due(0, "judge", 0, 0).does("item", 0, 0, 0).due(-5, "judge", 0, 0);
    }
}
