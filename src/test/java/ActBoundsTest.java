/** The edges that the document names for acts, traces, kinds, counts, the image: promises 28 to 33. */
public final class ActBoundsTest {
    private static final int[] WRAPPING = {Run.LEAST, Run.LEAST + 1, Run.LEAST + 5, -1, 0, 1,
        Run.GREATEST / 3, Run.GREATEST / 2, Run.GREATEST / 2 + 1, Run.GREATEST - 5, Run.GREATEST - 1, Run.GREATEST};

    public static void main(String[] args) {
        noSuchAct();
        noTraceThen();
        tracesEnds();
        wrapsOfMaster();
        wrapsOfHeir();
        wrapsOfDuchess();
        wrapsOfCousin();
        wrapsOfBishop();
        wrapsOfDaughter();
        wrapsOfTold();
        wrapsByHand();
        longestTrace();
        takenKinds();
        takenOrder();
        counts();
        noImage();
        imageOfNothing();
        imageOfAll();
        imageStays();
        newerImage();
        whichHouseHolds();
        notInTheImage();
        Run.end();
    }

    /** Masters of kind 0 ahead, so that the last one has the number 5. */
    private static Run fifth(int kind, int v) {
        return new Run().times(5, "master", 0, 0).due(5, "master", kind, v);
    }

    private static void noSuchAct() {
        Run.says("Promise 30: 0: no such MASTER, act");
        Run x = new Run().due(0, "act", 0, 0, 7).does("master", 0, 1);
        for (int p : new int[] {-1, 1, 6, Run.LEAST, Run.GREATEST}) {
            x.due(0, "act", p, 0, 7).due(0, "act", p, 3, 7);
        }
        for (int act : new int[] {-1, 3, Run.LEAST, Run.GREATEST}) {
            x.due(0, "act", 0, act, 7);
        }
        x.due(7, "act", 0, 0, 7).due(6, "act", 0, 1, 7).due(12, "act", 0, 2, 7);
    }

    private static void noTraceThen() {
        Run.says("Promise 30: and no TRACE then");
        Run x = new Run().due(-1, "trace", 0).due(0, "count", 8).does("master", 0, 0);
        x.due(14, "act", 0, 2, 7).due(3, "count", 8).due(0, "act", 1, 0, 7).due(0, "count", 8).due(-1, "trace", 0);
        x.due(14, "act", 0, 2, 7).due(12, "trace", 0).due(0, "act", 0, 3, 7).due(0, "count", 8).due(-1, "trace", 0);
        x.due(14, "act", 0, 2, 7).due(10, "trace", 2).due(0, "act", 0, -1, 7).due(0, "count", 8).due(-1, "trace", 2);
    }

    private static void tracesEnds() {
        Run.says("Promise 31: THE TRACE's i-th body. NONE");
        Run x = new Run().does("master", 0, 0).does("act", 0, 1, 7);
        x.due(11, "trace", 0).due(10, "trace", 1);
        for (int i : new int[] {-1, 2, 3, 19, 20, 21, Run.LEAST, Run.GREATEST}) {
            x.due(-1, "trace", i);
        }
        Run.says("Terms: THE TRACE: of the latest act()");
        x.does("act", 0, 0, 7).due(10, "trace", 0).due(-1, "trace", 1).due(1, "count", 8);
    }

    private static int low(long n) {
        return (int) n;
    }

    private static void wrapsOfMaster() {
        Run.says("Terms: MASTER: 10 dines: x + i. 11 nods: dines(x) - v. 12 tells: nods(x) * 2 (wrapping)");
        for (int x : WRAPPING) {
            long dines = x + 5L;
            fifth(0, 9).due(low(dines), "act", 5, 0, x).due(low(dines - 9), "act", 5, 1, x)
                .due(low((dines - 9) * 2), "act", 5, 2, x);
        }
    }

    private static void wrapsOfHeir() {
        Run.says("Terms: HEIR: 20 nods: super.nods(x) ^ 6 (wrapping)");
        for (int x : WRAPPING) {
            long nods = low(x + 5L - 9) ^ 6;
            fifth(1, 9).due(low(x + 5L), "act", 5, 0, x).due(nods, "act", 5, 1, x).due(low(nods * 2), "act", 5, 2, x);
        }
    }

    private static void wrapsOfDuchess() {
        Run.says("Terms: DUCHESS: 30 dines: super.dines(x * 3) (wrapping)");
        for (int x : WRAPPING) {
            long dines = low(x * 3L + 5);
            fifth(2, 9).due(dines, "act", 5, 0, x).due(low(dines - 9), "act", 5, 1, x)
                .due(low((dines - 9) * 2), "act", 5, 2, x);
        }
    }

    private static void wrapsOfCousin() {
        Run.says("Terms: COUSIN: 40 tells: super.tells(x) + nods(1) (wrapping)");
        for (int x : WRAPPING) {
            fifth(3, 9).due(low(x + 5L), "act", 5, 0, x).due(low(x + 5L - 9), "act", 5, 1, x)
                .due(low((x + 5L - 9) * 2 + (1 + 5 - 9)), "act", 5, 2, x);
        }
    }

    private static void wrapsOfBishop() {
        Run.says("Terms: BISHOP: 50 dines: -super.dines(x). 51 nods: super.nods(x + 1) (wrapping)");
        for (int x : WRAPPING) {
            long nods = low(-(x + 1L + 5) - 9) ^ 6;
            fifth(4, 9).due(low(-(x + 5L)), "act", 5, 0, x).due(nods, "act", 5, 1, x)
                .due(low(nods * 2), "act", 5, 2, x);
        }
    }

    private static void wrapsOfDaughter() {
        Run.says("Terms: DAUGHTER: 60 tells: super.tells(x - i) (wrapping)");
        for (int x : WRAPPING) {
            fifth(5, 9).due(low(x * 3L + 5), "act", 5, 0, x).due(low(x * 3L + 5 - 9), "act", 5, 1, x)
                .due(low(((x - 5L) * 3 + 5 - 9) * 2), "act", 5, 2, x);
        }
    }

    private static void wrapsOfTold() {
        Run.says("Terms: TOLD: 70 nods: super.nods(x) + super.dines(2). 71 dines: super.dines(x) ^ v (wrapping)");
        for (int x : WRAPPING) {
            long dines = low(x + 5L) ^ 9;
            long nods = dines - 9 + (2 + 5);
            long one = ((1 + 5) ^ 9) - 9 + (2 + 5);
            fifth(6, 9).due(dines, "act", 5, 0, x).due(low(nods), "act", 5, 1, x)
                .due(low(nods * 2 + one), "act", 5, 2, x);
        }
    }

    private static void wrapsByHand() {
        Run.says("Terms: ACTS with x (wrapping), by hand");
        fifth(0, 9).due(-2147483644, "act", 5, 0, Run.GREATEST).due(2147483644, "act", 5, 1, Run.LEAST)
            .due(-8, "act", 5, 2, Run.LEAST);
        fifth(2, 0).due(-2147483646, "act", 5, 0, Run.GREATEST).due(-2147483643, "act", 5, 0, Run.LEAST);
        fifth(4, 0).due(Run.LEAST, "act", 5, 0, Run.LEAST - 5).due(-5, "act", 5, 0, 0);
        fifth(5, 0).due(-20, "act", 5, 2, 0);
    }

    private static void bodies(Run x, int... numbers) {
        x.due(numbers.length, "count", 8);
        for (int i = 0; i < numbers.length; i++) {
            x.due(numbers[i], "trace", i);
        }
        x.due(-1, "trace", numbers.length);
    }

    private static void longestTrace() {
        Run.says("Terms: THE TRACE: as they began; the first 20 are kept (no act runs more than 12)");
        Run x = fifth(6, 9);
        x.call("act", 5, 2, Run.LEAST);
        bodies(x, 40, 12, 70, 11, 71, 10, 10, 70, 11, 71, 10, 10);
        x.call("act", 5, 1, Run.GREATEST);
        bodies(x, 70, 11, 71, 10, 10);
        Run y = fifth(4, 9);
        y.call("act", 5, 2, 0);
        bodies(y, 12, 51, 20, 11, 50, 10);
        Run z = fifth(5, 9);
        z.call("act", 5, 2, 0);
        bodies(z, 60, 12, 11, 30, 10);
        Run c = fifth(3, 9);
        c.call("act", 5, 2, 0);
        bodies(c, 40, 12, 11, 10, 11, 10);
    }

    private static void takenKinds() {
        Run.says("Promise 32: taken for one of KIND k (0 .. 6), or one under that: its KIND; CAST");
        String[] above = {"0", "01", "02", "03", "014", "025", "036"};
        for (int kind = 0; kind <= 6; kind++) {
            Run x = new Run().does("master", kind, 0);
            for (int k = 0; k <= 6; k++) {
                x.due(above[kind].indexOf('0' + k) >= 0 ? kind : -12, "taken", 0, k);
            }
        }
    }

    private static void takenOrder() {
        Run.says("Promise 32: BAD: k; NOTHING: no such MASTER");
        Run x = new Run().due(-11, "taken", 0, 0).due(-2, "taken", 0, 7).does("master", 0, 0);
        for (int k : new int[] {-1, 7, Run.LEAST, Run.GREATEST}) {
            x.due(-2, "taken", 0, k).due(-2, "taken", 1, k).due(-2, "taken", -1, k);
        }
        for (int p : new int[] {-1, 1, 6, Run.LEAST, Run.GREATEST}) {
            x.due(-11, "taken", p, 0).due(-11, "taken", p, 6);
        }
    }

    private static void counts() {
        Run.says("Promise 33: What 0 .. 8; BAD");
        Run x = new Run();
        for (int what : new int[] {-1, 9, 10, Run.LEAST, Run.GREATEST}) {
            x.due(-2, "count", what);
        }
        Run.says("Promise 33: all rows that are full");
        Run y = new Run();
        States.CROWDED.lead(y);
        int[] full = {6, 8, 5, 6, 5, 10, 8, 100, 0};
        for (int what = 0; what < full.length; what++) {
            y.due(full[what], "count", what);
        }
    }

    private static void noImage() {
        Run.says("Promise 29: STATE: there is none");
        new Run().due(-3, "undo").due(0, "image").due(0, "undo");
        new Run().does("master", 0, 0).due(-3, "undo").due(1, "count", 0).due(1, "image").due(1, "undo");
    }

    private static void imageOfNothing() {
        Run.says("Promise 29: All is as THE IMAGE: of nothing");
        Run x = new Run().due(0, "image");
        States.LATE.lead(x);
        x.due(0, "undo").due(0, "told", 0);
        for (int what : new int[] {0, 1, 2, 4, 5, 6}) {
            x.due(0, "count", what);
        }
        x.due(6, "told", 1).due(0, "master", 6, 1).due(0, "of", 0, 2).due(0, "grip", 0, 0, 0);
        Run.says("Terms: TOLD: ROW 0 at first, even in the place of one who had one");
        Run y = new Run().does("image").does("master", 6, 0).does("row", 0, 3, 9).does("mind", 0, 9).does("undo");
        y.due(0, "master", 6, 0).due(0, "row", 0, 3, 1).due(0, "of", 0, 2);
    }

    private static void imageOfAll() {
        Run.says("Promise 29: All is as THE IMAGE: of all that there can be");
        Portrait.same("undo from full to full changed", States.CROWDED, x -> {
            States.CROWDED.lead(x);
            x.does("mind", 0, 1).due(6, "undo").does("mind", 0, 255);
        });
        Run.says("Promise 29: All is as THE IMAGE, whatever came behind it");
        States.State imaged = x -> {
            States.FURNISHED.lead(x);
            x.does("image");
        };
        Portrait.same("undo left", imaged, x -> {
            imaged.lead(x);
            change(x);
            x.due(3, "undo");
        });
    }

    private static void change(Run x) {
        x.does("row", 0, 0, 9).does("row", 0, 1, 9).does("mind", 0, 1).does("tell", 1, 0).does("master", 6, 9);
        x.does("row", 3, 2, 9).does("deed", 3, 255, 0).does("footman", 255).does("out", 1, false).does("out", 3, true);
        x.does("see", -1, 0, 0, true).does("see", 0, 1, 0, false).does("plan", -1, 0).times(9, "plan", 2, 3);
        x.does("book", -1, 0).times(8, "book", 3, 255).does("pass", 60);
    }

    private static void imageStays() {
        Run.says("Promise 29: THE IMAGE can be undone to again");
        Run x = new Run().does("master", 0, 0).does("mind", 0, 5).does("image");
        for (int i = 0; i < 3; i++) {
            x.does("mind", 0, 255).does("master", 1, i).does("pass", 7).due(1, "undo").due(5, "of", 0, 2).due(0, "told", 0);
        }
    }

    private static void newerImage() {
        Run.says("Promise 28: THE IMAGE is taken: how many MASTERS there are; the newer one is the one");
        Run x = new Run().due(0, "image").does("master", 0, 0).due(1, "image").times(5, "master", 0, 0);
        x.due(1, "undo").due(1, "count", 0).times(5, "master", 0, 0).due(6, "image").due(6, "undo");
        Run.says("Promise 28: what is taken stays as it was");
        Run y = new Run().does("master", 6, 0).does("image").does("row", 0, 0, 9).does("tell", 0, 3).due(1, "undo");
        y.due(0, "row", 0, 0, 0).due(0, "of", 0, 2);
    }

    private static void whichHouseHolds() {
        Run.says("Terms: THE IMAGE: which HOUSE holds");
        Run x = new Run().does("image").house("hours 1").due(1, "told", 1).does("undo").due(6, "told", 1);
        x.due(1, "count", 3).house("hours 2").due(2, "told", 1).does("image").house("hours 3").due(3, "told", 1);
        x.does("undo").due(2, "told", 1).due(3, "count", 3).text("hours 4").due(3, "house").due(4, "told", 1);
        Run.says("Terms: six HOUSES are six, whichever holds");
        x.house("hours 5").house("hours 7").does("undo").due(2, "told", 1).text("hours 8").due(-4, "house");
        x.due(2, "told", 1).due(6, "count", 3);
        Run.says("Promise 13: the one that held holds, an older one too");
        Run y = new Run().house("hours 1").does("image").house("hours 2").does("undo").text("x").due(-10, "house");
        y.due(1, "told", 1);
    }

    private static void notInTheImage() {
        Run.says("Terms: THE IMAGE has no THE TEXT, TAPES, THE TRACE");
        Run x = new Run().does("master", 0, 0).does("image").text("hou").does("tape", 0, 1, 1).does("item", 0, 0, 7);
        x.does("act", 0, 1, 7).does("undo").due(3, "count", 7).due(7, "read", 0, 0).due(2, "count", 8);
        x.due(11, "trace", 0).text("rs 9").due(0, "house").due(9, "told", 1);
    }
}
