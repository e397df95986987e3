/** The edges that the document names for masters, deeds, rows and grips: promises 1 to 7 and 11. */
public final class MasterBoundsTest {
    private static final int[] NO_SETS = {-1, 256, Run.LEAST, Run.GREATEST};
    private static final int[] NO_FACTS = {-1, 8, Run.LEAST, Run.GREATEST};

    public static void main(String[] args) {
        nothingIsThere();
        kinds();
        numbersOfMasters();
        fullOfMasters();
        whatOfMasters();
        kept();
        blank();
        gripsDays();
        sumsFarFromZero();
        keepsAboveZero();
        heirs();
        duchesses();
        cousins();
        bishops();
        daughters();
        toldOnes();
        tell();
        mind();
        deeds();
        fullOfDeeds();
        doneDeeds();
        rows();
        rowsOfOtherKinds();
        Run.end();
    }

    private static Run of(int kind, int v) {
        return new Run().due(0, "master", kind, v);
    }

    private static void nothingIsThere() {
        Run.says("Promise 1: No MASTERS, no DEEDS, no FOOTMEN, no HOUSE");
        Run x = new Run();
        for (int what = 0; what <= 8; what++) {
            x.due(0, "count", what);
        }
        x.due(-1, "of", 0, 0).due(-10001, "grip", 0, 0, 0).due(-1, "tell", 0, 0).due(-1, "mind", 0, 0);
        x.due(-1, "deed", 0, 0, 0).due(-1, "row", 0, 0, 0).due(-1, "see", 0, 0, 0, true).due(-1, "can", 0, 0);
        x.due(-1, "knew", 0, 0, 0, 0).due(-1, "plan", 1, 0).due(-1, "plan", 2, 0).due(-1, "book", 0, 0);
        x.due(-1, "on", 0, 10).due(-11, "taken", 0, 0).due(0, "act", 0, 0, 1).due(-1, "trace", 0);
        x.due(-1, "out", 0, true).due(-1, "lost", 0).due(-3, "undo").due(-5, "wrong").due(-5, "looked");
        Run.says("Terms: DAY: 0 at first; HOURS (6 without)");
        x.due(0, "told", 0).due(6, "told", 1);
        Run.says("Terms: all that is asked of nothing");
        for (int what : new int[] {2, 3, 4, 5, 6, 7, 8, 10}) {
            x.due(0, "told", what);
        }
        x.due(1, "told", 9).due(0, "ends", 0).due(0, "ends", 1).due(0, "on", 60, 0).due(0, "on", 60, 1);
        x.due(Run.NO, "odds", 0, 0).due(Run.NO, "odds", 0, 1).due(Run.NO, "mean", 0, 0).due(Run.NO, "mean", 0, 1);
        x.due(0, "see", -1, 0, 0, true).due(0, "plan", -1, 0).due(0, "book", -1, 0).due(0, "image").due(0, "undo");
    }

    private static void kinds() {
        Run.says("Promise 2: NONE: kind (0 .. 6); BAD: v (0 .. 9)");
        for (int kind : new int[] {-1, 7, Run.LEAST, Run.GREATEST}) {
            new Run().due(-1, "master", kind, 0).due(-1, "master", kind, 10).due(0, "count", 0);
        }
        for (int v : new int[] {-1, 10, Run.LEAST, Run.GREATEST}) {
            new Run().due(-2, "master", 0, v).due(-2, "master", 6, v).due(0, "count", 0);
        }
        for (int kind = 0; kind <= 6; kind++) {
            of(kind, 0).due(1, "master", kind, 9).due(kind, "of", 0, 0).due(kind, "of", 1, 0)
                .due(0, "of", 0, 1).due(9, "of", 1, 1);
        }
        Run.says("Terms: a MIND (FACTS; none at first)");
        of(0, 9).due(0, "of", 0, 2);
    }

    private static void numbersOfMasters() {
        Run.says("Terms: MASTERS 0 .. 5, as they come: a number that has not come is none");
        Run x = new Run();
        for (int p = 0; p < 6; p++) {
            x.due(-1, "of", p, 0).due(-1, "tell", p, 0).due(-10001, "grip", p, 0, 0).due(-1, "on", 0, 10 + p);
            x.due(p, "master", 0, p);
            x.due(0, "of", p, 0).due(2, "tell", p, 1).due(1, "grip", p, 0, 0).due(2, "on", 0, 10 + p);
            x.due(p + 1, "count", 0);
        }
        for (int p : new int[] {-1, 6, 7, Run.LEAST, Run.GREATEST}) {
            x.due(-1, "of", p, 0).due(-10001, "grip", p, 0, 0).due(-1, "tell", p, 0).due(-1, "mind", p, 0);
            x.due(-1, "deed", p, 0, 0).due(-1, "row", p, 0, 0).due(-1, "can", p, 0).due(-1, "knew", p, 0, 0, 0);
            x.due(-1, "plan", 2, p).due(-11, "taken", p, 0).due(0, "act", p, 0, 1);
        }
        for (int p : new int[] {-2, 6, 7, Run.LEAST, Run.GREATEST}) {
            x.due(-1, "see", p, 0, 0, true).due(-1, "book", p, 0);
        }
        x.due(-1, "on", 0, 16).due(-1, "on", 0, 9).due(-1, "on", 0, Run.LEAST).due(-1, "on", 0, Run.GREATEST);
    }

    private static void fullOfMasters() {
        Run.says("Promise 2: FULL: 6");
        Run x = new Run();
        for (int p = 0; p < 6; p++) {
            x.due(p, "master", 6 - p, p);
        }
        x.due(-4, "master", 0, 0).due(-4, "master", 6, 9).due(6, "count", 0);
        Run.says("Promise 2: NONE and BAD ahead of FULL");
        x.due(-1, "master", 7, 10).due(-2, "master", 0, 10).due(-2, "master", 0, -1).due(-1, "master", -1, 0);
        x.due(6, "count", 0).due(1, "of", 5, 0).due(5, "of", 5, 1);
    }

    private static void whatOfMasters() {
        Run.says("Promise 3: what 0 .. 3, 10 and f; NONE");
        Run x = of(3, 7).does("mind", 0, 255);
        x.due(3, "of", 0, 0).due(7, "of", 0, 1).due(255, "of", 0, 2).due(1, "of", 0, 3);
        for (int f = 0; f < 8; f++) {
            x.due(0, "of", 0, 10 + f);
        }
        for (int what : new int[] {-1, 4, 5, 8, 9, 18, 19, Run.LEAST, Run.GREATEST}) {
            x.due(-1, "of", 0, what).due(-1, "of", 1, what);
        }
        Run.says("Promise 3: NONE: no such MASTER, whatever is asked of it");
        for (int p : new int[] {-1, 1, 5, 6, Run.LEAST, Run.GREATEST}) {
            for (int what = 0; what <= 18; what++) {
                x.due(-1, "of", p, what);
            }
        }
    }

    private static void kept() {
        Run.says("Terms: KEPT .. were it known now (60 at most)");
        of(0, 0).due(60, "of", 0, 10).due(60, "of", 0, 17);
        Run.says("Terms: KEPT: 0, if the first NIGHT takes it");
        of(0, 0).house("lose 1 f=7").due(60, "of", 0, 16).due(0, "of", 0, 17);
        // Of the days 0 .. 69 only 59 is both d=9 and s=3, and only 60 both d=0 and s=4.
        Run.says("Terms: KEPT: 59 and 60, by the last NIGHT that is looked at");
        of(0, 0).house("lose 1 d=9&s=3").due(59, "of", 0, 10);
        of(0, 0).house("lose 1 d=8&s=2").due(58, "of", 0, 10);
        of(0, 0).house("lose 1 d=0&s=4").due(60, "of", 0, 10).does("pass", 1).due(59, "of", 0, 10);
        Run.says("Terms: KEPT goes on beyond 9999");
        // Day 9999 is d=9 and s=3, 10058 the first d=8 and s=6, 10059 the first d=9 and s=0.
        of(0, 0).until(9999).house("lose 1 d=8&s=6").due(59, "of", 0, 10);
        of(0, 0).until(9999).house("lose 1 d=9&s=0").due(60, "of", 0, 10);
        of(0, 0).until(9999).house("lose 1 d=0").due(1, "of", 0, 10);
    }

    private static void blank() {
        Run.says("Terms: BLANK: the fewest NIGHTS (0 .. 60)");
        of(0, 0).due(0, "of", 0, 3).does("mind", 0, 1).due(-5, "of", 0, 3).does("mind", 0, 0).due(0, "of", 0, 3);
        of(0, 0).does("mind", 0, 255).house("lose 1 p=0").due(1, "of", 0, 3);
        of(0, 0).does("mind", 0, 255).house("lose 1 d=8&s=2").due(59, "of", 0, 3);
        of(0, 0).does("mind", 0, 255).house("lose 1 d=9&s=3").due(60, "of", 0, 3);
        Run.says("Terms: BLANK (-5: not by then)");
        of(0, 0).does("mind", 0, 255).house("lose 1 d=0&s=4").due(-5, "of", 0, 3)
            .does("pass", 1).due(60, "of", 0, 3);
        of(0, 0).does("mind", 0, 3).house("lose 1 f=0").due(-5, "of", 0, 3);
        Run.says("Terms: BLANK goes on beyond 9999");
        of(0, 0).until(9999).does("mind", 0, 1).house("lose 1 d=8&s=6").due(60, "of", 0, 3);
        of(0, 0).until(9999).does("mind", 0, 1).house("lose 1 d=9&s=0").due(-5, "of", 0, 3);
    }

    private static void gripsDays() {
        Run.says("Promise 4: n DAYS (0 .. 60) from now; -10002: n");
        Run x = of(0, 0).house("keep 10 d=0&s=4;keep 20 d=0&s=0");
        x.due(21, "grip", 0, 0, 0).due(11, "grip", 0, 0, 60).due(1, "grip", 0, 0, 59);
        for (int n : new int[] {-1, 61, Run.LEAST, Run.GREATEST}) {
            x.due(-10002, "grip", 0, 0, n);
        }
        Run.says("Promise 4: -10001: NONE, ahead of n");
        for (int fact : NO_FACTS) {
            x.due(-10001, "grip", 0, fact, 0).due(-10001, "grip", 0, fact, 61);
        }
        x.due(-10001, "grip", 1, 0, 61).due(-10001, "grip", -1, 8, -1);
        Run.says("Promise 4: DAYS beyond 9999, too");
        Run y = of(0, 0).until(9999).house("keep 10 d=9&s=3;keep 20 d=9&s=0");
        y.due(11, "grip", 0, 7, 0).due(1, "grip", 0, 7, 59).due(21, "grip", 0, 7, 60);
    }

    private static String eight(String word) {
        StringBuilder s = new StringBuilder(word).append(" 99 f<9");
        for (int i = 1; i < 8; i++) {
            s.append(';').append(word).append(" 99 f<9");
        }
        return s.toString();
    }

    private static void sumsFarFromZero() {
        Run.says("Terms: SUM: 1, and the n of all keep, less those of all lose (may be below 0)");
        of(0, 0).house(eight("keep")).due(793, "grip", 0, 0, 0);
        of(0, 0).house(eight("lose")).due(-791, "grip", 0, 7, 0);
        of(3, 0).house(eight("keep")).due(396, "grip", 0, 0, 0);
        of(3, 0).house(eight("lose")).due(-395, "grip", 0, 0, 0);
        of(0, 0).house("keep 0 f<9;lose 0 f<9").due(1, "grip", 0, 0, 0);
        of(0, 0).house("keep 99 f<9;lose 99 f<9").due(1, "grip", 0, 0, 0);
        Run.says("Terms: without a HOUSE there are no CLAUSES");
        of(0, 0).due(1, "grip", 0, 0, 0).due(1, "grip", 0, 7, 60);
    }

    private static void keepsAboveZero() {
        Run.says("Terms: It KEEPS the FACT, if that is above 0");
        of(0, 0).does("mind", 0, 7).house("keep 1 f=0;lose 1 f=1;lose 2 f=2")
            .due(2, "grip", 0, 0, 0).due(0, "grip", 0, 1, 0).due(-1, "grip", 0, 2, 0)
            .due(1, "on", 1, 10).due(1, "pass", 1).due(1, "of", 0, 2);
        of(0, 0).does("mind", 0, 1).due(1, "grip", 0, 0, 0).does("pass", 1).due(1, "of", 0, 2);
    }

    private static void heirs() {
        Run.says("Terms: HEIR: SUM, and 2, if the number of the FACT is less than v");
        of(1, 0).due(1, "grip", 0, 0, 0);
        of(1, 1).due(3, "grip", 0, 0, 0).due(1, "grip", 0, 1, 0);
        of(1, 7).due(3, "grip", 0, 6, 0).due(1, "grip", 0, 7, 0);
        of(1, 8).due(3, "grip", 0, 7, 0);
        of(1, 9).due(3, "grip", 0, 7, 0);
        of(1, 3).house("lose 2 f<9").due(1, "grip", 0, 2, 0).due(-1, "grip", 0, 3, 0);
        of(1, 3).house("lose 3 f<9").due(0, "grip", 0, 2, 0).due(-2, "grip", 0, 3, 0);
    }

    private static void duchesses() {
        Run.says("Terms: DUCHESS: SUM; 0, if DAY is odd");
        of(2, 9).house("keep 4 f<9").due(5, "grip", 0, 0, 0).due(0, "grip", 0, 0, 1).due(5, "grip", 0, 0, 2)
            .due(0, "grip", 0, 0, 59).due(5, "grip", 0, 0, 60);
        of(2, 9).house("lose 4 f<9").due(-3, "grip", 0, 0, 0).due(0, "grip", 0, 0, 1);
        of(2, 9).until(9999).due(0, "grip", 0, 0, 0).due(1, "grip", 0, 0, 1);
    }

    private static void cousins() {
        Run.says("Terms: COUSIN: the half (cut toward 0) of SUM");
        int[][] halves = {{0, 0}, {1, 1}, {2, 1}, {3, 2}};
        for (int[] half : halves) {
            of(3, 9).house("keep " + half[0] + " f<9").due(half[1], "grip", 0, 0, 0);
        }
        int[][] below = {{1, 0}, {2, 0}, {3, -1}, {4, -1}, {5, -2}};
        for (int[] half : below) {
            of(3, 9).house("lose " + half[0] + " f<9").due(half[1], "grip", 0, 0, 0);
        }
    }

    private static void bishops() {
        Run.says("Terms: BISHOP: as HEIR; 0, if the FACT is v modulo 8");
        of(4, 0).due(0, "grip", 0, 0, 0).due(1, "grip", 0, 1, 0);
        of(4, 7).due(0, "grip", 0, 7, 0).due(3, "grip", 0, 6, 0);
        of(4, 8).due(0, "grip", 0, 0, 0).due(3, "grip", 0, 7, 0);
        of(4, 9).due(0, "grip", 0, 1, 0).due(3, "grip", 0, 0, 0);
        of(4, 5).house("lose 9 f<9").due(0, "grip", 0, 5, 0).due(-6, "grip", 0, 4, 0).due(-8, "grip", 0, 6, 0);
    }

    private static void daughters() {
        Run.says("Terms: DAUGHTER: as DUCHESS, and v modulo 3");
        for (int v = 0; v <= 9; v++) {
            of(5, v).due(1 + v % 3, "grip", 0, 0, 0).due(v % 3, "grip", 0, 0, 1);
        }
        of(5, 2).house("lose 9 f<9").due(-6, "grip", 0, 0, 0).due(2, "grip", 0, 0, 1);
    }

    private static void toldOnes() {
        Run.says("Terms: TOLD: as COUSIN, and its ROW (0 at first) at DAY modulo 4 more");
        of(6, 9).due(0, "grip", 0, 0, 0).due(0, "grip", 0, 0, 3);
        Run x = of(6, 9);
        for (int part = 0; part < 4; part++) {
            x.does("row", 0, part, part + 1);
        }
        for (int n = 0; n <= 8; n++) {
            x.due(n % 4 + 1, "grip", 0, 0, n);
        }
        x.house("lose 4 f<9").due(0, "grip", 0, 0, 60).due(3, "grip", 0, 0, 59);
        of(6, 9).does("row", 0, 3, 9).until(9999).due(9, "grip", 0, 0, 0).due(0, "grip", 0, 0, 1);
        of(6, 9).does("row", 0, 1, 9).due(9, "grip", 0, 5, 1).does("mind", 0, 255).due(0, "on", 1, 10)
            .does("pass", 1).does("mind", 0, 255).due(255, "on", 1, 10).due(0, "on", 2, 10);
    }

    private static void tell() {
        Run.says("Promise 5: a FACT (0 .. 7); NONE");
        Run x = of(0, 0).due(1, "tell", 0, 0).due(129, "tell", 0, 7).due(129, "tell", 0, 0).due(129, "tell", 0, 7);
        for (int fact : NO_FACTS) {
            x.due(-1, "tell", 0, fact);
        }
        x.due(-1, "tell", 1, 0).due(129, "of", 0, 2);
    }

    private static void mind() {
        Run.says("Promise 6: FACTS (0 .. 255); NONE; BAD");
        Run x = of(0, 0).due(0, "mind", 0, 255).due(255, "mind", 0, 0).due(0, "mind", 0, 1).due(1, "mind", 0, 254);
        for (int facts : NO_SETS) {
            x.due(-2, "mind", 0, facts).due(-1, "mind", 1, facts);
        }
        x.due(-2, "mind", 0, 257).due(254, "of", 0, 2);
    }

    private static void deeds() {
        Run.says("Promise 7: NONE: master; BAD: facts, due (0 .. 20)");
        Run x = of(0, 0);
        for (int facts : NO_SETS) {
            x.due(-2, "deed", 0, facts, 0).due(-1, "deed", 1, facts, 0);
        }
        for (int due : new int[] {-1, 21, Run.LEAST, Run.GREATEST}) {
            x.due(-2, "deed", 0, 0, due).due(-1, "deed", 1, 0, due);
        }
        x.due(0, "count", 1).due(0, "deed", 0, 0, 0).due(1, "deed", 0, 255, 20).due(2, "count", 1);
    }

    private static void fullOfDeeds() {
        Run.says("Promise 7: FULL: 8");
        Run x = of(0, 0);
        for (int i = 0; i < 8; i++) {
            x.due(i, "deed", 0, 1 << i, i);
        }
        x.due(-4, "deed", 0, 0, 0).due(-4, "deed", 0, 255, 20).due(8, "count", 1);
        Run.says("Promise 7: NONE and BAD ahead of FULL");
        x.due(-1, "deed", 1, 0, 0).due(-1, "deed", -1, 256, 21).due(-2, "deed", 0, 256, 0).due(-2, "deed", 0, 0, 21);
        Run.says("Promise 7: the eighth DEED is one of all");
        x.does("mind", 0, 128).due(128, "told", 2).due(7, "told", 3);
    }

    private static void doneDeeds() {
        Run.says("Terms: A DEED is DONE, if all FACTS it takes are in the MIND");
        Run x = of(0, 0).does("deed", 0, 0, 0).does("deed", 0, 255, 0).does("deed", 0, 1, 0);
        x.due(1, "told", 2).does("mind", 0, 254).due(1, "told", 2).does("mind", 0, 255).due(7, "told", 2);
        x.does("mind", 0, 1).due(5, "told", 2);
    }

    private static void rows() {
        Run.says("Promise 11: NONE: master, part (0 .. 3); BAD: n (0 .. 9)");
        Run x = of(6, 0);
        for (int part = 0; part < 4; part++) {
            x.due(0, "row", 0, part, 9).due(9, "row", 0, part, 0).due(0, "row", 0, part, part + 2);
        }
        for (int part : new int[] {-1, 4, Run.LEAST, Run.GREATEST}) {
            x.due(-1, "row", 0, part, 0).due(-1, "row", 0, part, 10);
        }
        for (int n : new int[] {-1, 10, Run.LEAST, Run.GREATEST}) {
            x.due(-2, "row", 0, 0, n).due(-2, "row", 0, 3, n);
        }
        x.due(-1, "row", 1, 0, 0).due(-1, "row", -1, 0, 10);
        for (int part = 0; part < 4; part++) {
            x.due(part + 2, "row", 0, part, 0);
        }
    }

    private static void rowsOfOtherKinds() {
        Run.says("Promise 11: STATE: another KIND, behind NONE and BAD");
        for (int kind = 0; kind < 6; kind++) {
            of(kind, 1).due(-3, "row", 0, 0, 0).due(-3, "row", 0, 3, 9).due(-2, "row", 0, 0, 10)
                .due(-2, "row", 0, 0, -1).due(-1, "row", 0, 4, 10).due(-1, "row", 0, -1, 0);
        }
        Run.says("Terms: the ROW is of one MASTER alone");
        of(6, 0).does("master", 6, 0).does("row", 0, 3, 7).due(0, "row", 1, 0, 0).due(0, "row", 1, 3, 1)
            .due(7, "row", 0, 3, 7);
        Run.says("Terms: the ROWS of six, each told as its MASTER comes, stay as the others come");
        Run x = new Run();
        for (int p = 0; p < 6; p++) {
            x.due(p, "master", 6, 0);
            for (int part = 0; part < 4; part++) {
                x.due(0, "row", p, part, p + part + 1);
            }
        }
        for (int p = 0; p < 6; p++) {
            for (int part = 0; part < 4; part++) {
                x.due(p + part + 1, "grip", p, 0, part).due(p + part + 1, "row", p, part, 0);
            }
        }
    }
}
