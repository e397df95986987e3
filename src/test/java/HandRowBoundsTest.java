/** The edges that the document names for what is told by hand: promises 17 and 23 to 26. */
public final class HandRowBoundsTest {
    private static final int[] FAR = {Run.LEAST, Run.LEAST + 1, -100, 100, Run.GREATEST - 1, Run.GREATEST};

    public static void main(String[] args) {
        seeRefused();
        seeFull();
        seeNone();
        planWhat();
        planTells();
        planForgets();
        planNights();
        planFull();
        planNone();
        endsWhat();
        endsOfNoPlan();
        endsInOrder();
        bookRefused();
        bookFull();
        bookNone();
        looked();
        Run.end();
    }

    private static Run masters(int n) {
        return new Run().times(n, "master", 0, 0);
    }

    private static void seeRefused() {
        Run.says("Promise 17: NONE: master, fact; BAD: n (0 .. 20)");
        Run x = masters(2);
        for (int p : new int[] {-2, 2, 6, Run.LEAST, Run.GREATEST}) {
            x.due(-1, "see", p, 0, 0, true).due(-1, "see", p, 8, 21, false);
        }
        for (int fact : new int[] {-1, 8, Run.LEAST, Run.GREATEST}) {
            x.due(-1, "see", 0, fact, 0, true).due(-1, "see", 1, fact, 21, true);
        }
        for (int n : new int[] {-1, 21, Run.LEAST, Run.GREATEST}) {
            x.due(-2, "see", 0, 0, n, true).due(-2, "see", 1, 7, n, false);
        }
        x.due(0, "count", 4).due(1, "see", 0, 0, 0, true).due(2, "see", 1, 7, 20, false).due(2, "count", 4);
    }

    private static void seeFull() {
        Run.says("Promise 17: FULL: 5");
        Run x = masters(1);
        for (int i = 1; i <= 5; i++) {
            x.due(i, "see", 0, 0, 0, true);
        }
        x.due(-4, "see", 0, 0, 0, false).due(-4, "see", 0, 7, 20, false).due(5, "count", 4).due(-5, "wrong");
        Run.says("Promise 17: NONE and BAD ahead of FULL");
        x.due(-1, "see", 1, 0, 21, true).due(-1, "see", 0, 8, 21, true).due(-2, "see", 0, 0, 21, true);
        x.due(-1, "see", -2, 0, 0, true).due(-2, "see", 0, 0, -1, true).due(5, "count", 4);
    }

    private static void seeNone() {
        Run.says("Promise 17: master -1: none then, 0");
        new Run().due(0, "see", -1, 0, 0, true).due(0, "count", 4);
        Run x = masters(1).times(5, "see", 0, 0, 0, false).due(0, "wrong");
        x.due(0, "see", -1, -1, 21, false).due(0, "count", 4).due(-5, "wrong").due(10, "can", 0, 0);
        x.due(1, "see", 0, 0, 0, true).due(-5, "wrong").due(0, "see", -1, Run.GREATEST, Run.LEAST, true);
    }

    private static void planWhat() {
        Run.says("Promise 23: NONE: what (0 .. 2)");
        Run x = masters(1);
        for (int what : new int[] {-2, 3, Run.LEAST, Run.GREATEST}) {
            x.due(-1, "plan", what, 0);
        }
        x.due(0, "count", 5).due(1, "plan", 0, 0).due(2, "plan", 1, 0).due(3, "plan", 2, 0);
    }

    private static void planTells() {
        Run.says("Promise 23: NONE: master, fact (by 1), told as 10 times its number and that");
        Run x = masters(2).does("deed", 0, 1, 0).does("deed", 0, 128, 0).does("deed", 1, 1, 0).does("deed", 1, 128, 0);
        for (int n : new int[] {-1, -9, -10, 8, 9, 18, 19, 20, 27, 60, 70}) {
            x.due(-1, "plan", 1, n);
        }
        for (int n : FAR) {
            x.due(-1, "plan", 1, n);
        }
        x.due(0, "count", 5).due(1, "plan", 1, 0).due(1, "ends", 1).due(2, "plan", 1, 7).due(3, "ends", 1);
        x.due(3, "plan", 1, 10).due(7, "ends", 1).due(4, "plan", 1, 17).due(15, "ends", 1).due(4, "ends", 0);
        Run.says("Promise 23: the last MASTER that can be");
        masters(6).due(-1, "plan", 1, 58).due(-1, "plan", 1, 60).due(1, "plan", 1, 57).due(1, "ends", 0);
    }

    private static void planForgets() {
        Run.says("Promise 23: NONE: master (by 2)");
        Run x = masters(2).does("mind", 0, 3).does("mind", 1, 7);
        for (int n : new int[] {-1, 2, 6, 10}) {
            x.due(-1, "plan", 2, n);
        }
        for (int n : FAR) {
            x.due(-1, "plan", 2, n);
        }
        x.due(0, "count", 5).due(1, "plan", 2, 1).due(2, "ends", 0).due(2, "plan", 2, 0).due(0, "ends", 0);
        new Run().due(-1, "plan", 2, 0).due(-1, "plan", 1, 0);
        masters(6).due(-1, "plan", 2, 6).due(1, "plan", 2, 5);
    }

    private static void planNights() {
        Run.says("Promise 23: by 0 n does not matter");
        Run x = new Run();
        for (int i = 0; i < FAR.length; i++) {
            x.due(i + 1, "plan", 0, FAR[i]);
        }
        x.due(0, "ends", 0).due(0, "ends", 1);
    }

    private static void planFull() {
        Run.says("Promise 23: FULL: 10");
        Run x = masters(1);
        for (int i = 1; i <= 10; i++) {
            x.due(i, "plan", 0, 0);
        }
        x.due(-4, "plan", 0, 0).due(-4, "plan", 1, 0).due(-4, "plan", 2, 0).due(10, "count", 5).due(0, "ends", 0);
        Run.says("Promise 23: NONE ahead of FULL");
        x.due(-1, "plan", 3, 0).due(-1, "plan", 1, 8).due(-1, "plan", 1, 10).due(-1, "plan", 2, 1).due(10, "count", 5);
        Run.says("Promise 23: the tenth row goes, too");
        masters(1).times(9, "plan", 0, 0).due(0, "ends", 0).does("plan", 1, 5).due(1, "ends", 0);
    }

    private static void planNone() {
        Run.says("Promise 23: what -1: it is empty then, 0");
        new Run().due(0, "plan", -1, 0).due(0, "count", 5);
        Run x = masters(1).times(10, "plan", 1, 0).due(1, "ends", 0).due(0, "plan", -1, Run.LEAST);
        x.due(0, "count", 5).due(0, "ends", 0).due(0, "plan", -1, Run.GREATEST).due(1, "plan", 1, 1).due(1, "ends", 0);
    }

    private static void endsWhat() {
        Run.says("Promise 24: what 0, 1; NONE");
        Run x = masters(1).does("plan", 1, 0);
        for (int what : new int[] {-1, 2, Run.LEAST, Run.GREATEST}) {
            x.due(-1, "ends", what);
        }
        x.due(1, "ends", 0).due(0, "ends", 1);
    }

    private static void endsOfNoPlan() {
        Run.says("Promise 24: an empty PLAN ends as all is");
        Run x = masters(2).does("mind", 0, 255).does("mind", 1, 1).does("deed", 1, 1, 5).does("deed", 1, 2, 0);
        x.due(9, "ends", 0).due(1, "ends", 1);
        Run.says("Terms: ENDS of all that there can be");
        Run y = masters(6);
        for (int p = 0; p < 6; p++) {
            y.does("mind", p, 255);
        }
        for (int i = 0; i < 8; i++) {
            y.does("deed", i % 6, 255, 0);
        }
        y.due(48, "ends", 0).due(255, "ends", 1);
    }

    private static void endsInOrder() {
        Run.says("Terms: A PLAN: what goes, row by row");
        Run x = masters(1).house("lose 1 d=1");
        x.does("plan", 1, 3).does("plan", 0, 0).due(1, "ends", 0).does("plan", 0, 0).due(0, "ends", 0);
        x.does("plan", 1, 3).does("plan", 0, 0).due(1, "ends", 0).does("plan", 2, 0).due(0, "ends", 0);
        x.does("plan", 1, 4).does("plan", 1, 4).does("plan", 1, 3).due(2, "ends", 0);
        x.due(0, "of", 0, 2).due(0, "told", 0).due(9, "count", 5);
    }

    private static void bookRefused() {
        Run.says("Promise 25: NONE; BAD: facts");
        Run x = masters(2);
        for (int p : new int[] {-2, 2, 6, Run.LEAST, Run.GREATEST}) {
            x.due(-1, "book", p, 0).due(-1, "book", p, 256);
        }
        for (int facts : new int[] {-1, 256, Run.LEAST, Run.GREATEST}) {
            x.due(-2, "book", 0, facts).due(-2, "book", 1, facts);
        }
        x.due(0, "count", 6).due(1, "book", 0, 0).due(2, "book", 1, 255).due(2, "count", 6).due(1, "looked");
    }

    private static void bookFull() {
        Run.says("Promise 25: FULL: 8");
        Run x = masters(1);
        for (int i = 1; i <= 8; i++) {
            x.due(i, "book", 0, 0);
        }
        x.due(-4, "book", 0, 1).due(-4, "book", 0, 0).due(8, "count", 6).due(-5, "looked");
        Run.says("Promise 25: NONE and BAD ahead of FULL");
        x.due(-1, "book", 1, 256).due(-1, "book", -2, 0).due(-2, "book", 0, 256).due(-2, "book", 0, -1);
        x.due(8, "count", 6);
    }

    private static void bookNone() {
        Run.says("Promise 25: master -1: it is empty then, 0");
        new Run().due(0, "book", -1, 0).due(0, "count", 6);
        Run x = masters(1).times(8, "book", 0, 1).due(0, "looked").due(0, "book", -1, -1).due(0, "count", 6);
        x.due(-5, "looked").due(1, "book", 0, 0).due(-5, "looked").due(0, "book", -1, 256).due(0, "count", 6);
    }

    private static void looked() {
        Run.says("Promise 26: the number of the first of these rows of whose MASTER the MIND is otherwise (-5: none)");
        new Run().due(-5, "looked");
        Run x = masters(2).does("mind", 1, 255).times(7, "book", 1, 255).due(-5, "looked");
        x.does("book", 0, 1).due(7, "looked").does("tell", 0, 0).due(-5, "looked").does("mind", 1, 254).due(0, "looked");
        Run.says("Terms: the MIND is otherwise now");
        new Run().does("master", 2, 0).does("mind", 0, 1).does("book", 0, 1).does("pass", 1).due(-5, "looked")
            .does("pass", 1).due(0, "looked");
    }
}
