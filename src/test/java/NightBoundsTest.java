/** The edges that the document names for nights and what is asked of them: promises 14 to 16, 18 to 20, 22. */
public final class NightBoundsTest {
    public static void main(String[] args) {
        toldWhat();
        tellings();
        dues();
        dueFromNow();
        toldOnTheirDay();
        busy();
        passes();
        lastDay();
        onNights();
        onWhat();
        beyondTheLastDay();
        seenNights();
        seenFromNow();
        wrongRows();
        canNumbers();
        canByTheHouse();
        knewNumbers();
        knewSets();
        meanNumbers();
        meanOfNone();
        meanInLowestTerms();
        Run.end();
    }

    private static Run master() {
        return new Run().does("master", 0, 0);
    }

    private static void toldWhat() {
        Run.says("Promise 14: What 0 .. 10; NONE");
        Run x = master();
        for (int what : new int[] {-1, 11, 12, Run.LEAST, Run.GREATEST}) {
            x.due(-1, "told", what);
        }
        for (int what = 0; what <= 10; what++) {
            x.does("told", what);
        }
    }

    private static void tellings() {
        Run.says("Terms: TELLINGS: how many it takes at least");
        master().due(0, "told", 3).does("deed", 0, 0, 0).due(0, "told", 3).does("deed", 0, 255, 20).due(8, "told", 3);
        Run.says("Terms: TELLINGS: one FACT for two DEEDS of one MASTER is told once, to two MASTERS twice");
        Run x = master().does("master", 0, 0).does("deed", 0, 3, 0).does("deed", 0, 6, 9).due(3, "told", 3);
        x.does("deed", 1, 3, 0).due(5, "told", 3).does("mind", 0, 255).due(2, "told", 3);
        x.does("mind", 1, 3).due(0, "told", 3).due(7, "told", 2);
        Run.says("Terms: TELLINGS of all that there can be");
        Run y = new Run();
        for (int p = 0; p < 6; p++) {
            y.does("master", 0, 0).does("deed", p, 255, 0);
        }
        y.does("deed", 0, 255, 0).does("deed", 5, 255, 1).due(48, "told", 3).due(48, "told", 4).due(48, "told", 5);
    }

    private static void dues() {
        Run.says("Terms: on this DAY (behind 0 NIGHTS), and on each one behind 1 .. 20 NIGHTS");
        for (int due = 0; due <= 20; due++) {
            master().does("deed", 0, 7, due).due(3, "told", 4).due(3, "told", 5);
        }
        Run.says("Terms: what is known behind so many NIGHTS is not told");
        // Fact 0 is lost in the first night, fact 1 in the 20th, fact 2 in the 21st: days 0, 19 and 20.
        String text = "lose 1 f=0&d=0;lose 1 f=1&d=9&s=5;lose 1 f=2&d=0&s=6";
        int[] dues = {0, 1, 19, 20};
        int[] missing = {0, 1, 1, 2};
        for (int i = 0; i < 4; i++) {
            master().does("mind", 0, 7).house(text).does("deed", 0, 7, dues[i]).due(missing[i], "told", 4);
        }
    }

    private static void dueFromNow() {
        Run.says("Terms: DUE: behind how many NIGHTS from now, whenever that is asked");
        Run x = master().does("mind", 0, 1).house("lose 1 d=5").does("deed", 0, 1, 3).due(0, "told", 4);
        x.does("pass", 2).due(0, "told", 4).does("pass", 1).due(1, "told", 4);
        x.does("pass", 2).due(1, "told", 4).does("pass", 1).due(0, "of", 0, 2).due(1, "told", 4);
        Run.says("Terms: EACH ON ITS DAY goes on beyond 9999");
        // Of the days 9999 .. 10019 only 10013 is d=3 and s=3.
        Run y = master().until(9999).does("mind", 0, 1).house("lose 1 d=3&s=3");
        y.does("deed", 0, 1, 14).due(0, "told", 4).does("deed", 0, 1, 15).due(1, "told", 4);
    }

    private static void toldOnTheirDay() {
        Run.says("Terms: just those FACTS are told which a DEED that is DUE then takes: each counts once a DAY");
        master().does("deed", 0, 3, 4).does("deed", 0, 6, 4).due(3, "told", 4).due(3, "told", 5);
        master().does("deed", 0, 3, 4).does("deed", 0, 6, 5).due(3, "told", 4).due(2, "told", 5);
        Run.says("Terms: what was told is lost by NIGHT, too");
        master().house("lose 1 p=0").does("deed", 0, 3, 4).does("deed", 0, 6, 5).due(4, "told", 4).due(2, "told", 5);
        Run.says("Terms: what no DEED takes then is not told");
        master().does("deed", 0, 0, 0).due(0, "told", 4).due(0, "told", 5).due(0, "told", 6);
    }

    private static void busy() {
        Run.says("Terms: BUSY: whether that is more than HOURS (1 or 0)");
        Run x = master().does("deed", 0, 63, 20).due(6, "told", 5).due(0, "told", 6);
        x.does("deed", 0, 64, 20).due(7, "told", 5).due(1, "told", 6);
        x.house("hours 7").due(0, "told", 6).house("hours 06").due(1, "told", 6).house("hours 99").due(0, "told", 6);
        new Run().house("hours 0").due(0, "told", 6).does("master", 0, 0).does("deed", 0, 1, 7).due(1, "told", 6)
            .does("mind", 0, 1).due(0, "told", 6);
        Run.says("Terms: BUSY: the greatest number of them on one DAY, the first and the last as well");
        master().does("deed", 0, 7, 0).does("deed", 0, 24, 10).does("deed", 0, 32, 20).due(3, "told", 5);
        master().does("deed", 0, 1, 0).does("deed", 0, 24, 10).does("deed", 0, 224, 20).due(3, "told", 5);
    }

    private static void passes() {
        Run.says("Promise 15: n NIGHTS (0 .. 60); BAD");
        Run x = master().does("mind", 0, 255).house("lose 1 d=0&f=0;lose 1 d=9&s=3&f=1;lose 1 d=0&s=4&f=2");
        for (int n : new int[] {-1, 61, Run.LEAST, Run.GREATEST}) {
            x.due(-2, "pass", n);
        }
        x.due(0, "told", 0).due(0, "pass", 0).due(255, "of", 0, 2).due(60, "pass", 60).due(252, "of", 0, 2);
        x.due(61, "pass", 1).due(248, "of", 0, 2);
    }

    private static void lastDay() {
        Run.says("Promise 15: STATE: it would be above 9999");
        Run x = master().does("mind", 0, 1).until(9939).due(9939, "told", 0);
        x.does("pass", 1).due(-3, "pass", 60).due(9940, "told", 0).due(9999, "pass", 59);
        x.due(-3, "pass", 1).due(-3, "pass", 60).due(9999, "pass", 0).due(9999, "told", 0).due(1, "of", 0, 2);
        Run.says("Promise 15: BAD ahead of STATE");
        x.due(-2, "pass", 61).due(-2, "pass", -1).due(-2, "pass", Run.GREATEST).due(9999, "told", 0);
        Run.says("Promise 15: 9999 by 60 NIGHTS at once");
        master().until(9939).due(9999, "pass", 60);
        Run.says("Promise 15: no NIGHT of those that are refused goes");
        master().until(9998).does("mind", 0, 255).house("lose 1 p=0").due(-3, "pass", 2).due(255, "of", 0, 2)
            .due(9999, "pass", 1).due(0, "of", 0, 2);
    }

    private static void onNights() {
        Run.says("Promise 16: ON n NIGHTS (0 .. 60); BAD: n");
        Run x = master().does("mind", 0, 7).does("deed", 0, 4, 0).does("deed", 0, 2, 0)
            .house("lose 1 d=0&f=0;lose 1 d=9&s=3&f=1;lose 1 d=0&s=4&f=2");
        x.due(7, "on", 0, 10).due(6, "on", 1, 10).due(6, "on", 59, 10).due(4, "on", 60, 10);
        x.due(3, "on", 0, 1).due(1, "on", 60, 1).due(3, "on", 0, 0).due(3, "on", 59, 0).due(1, "on", 60, 0);
        for (int n : new int[] {-1, 61, Run.LEAST, Run.GREATEST}) {
            x.due(-2, "on", n, 0).due(-2, "on", n, 1).due(-2, "on", n, 10);
        }
        x.due(7, "of", 0, 2).due(0, "told", 0);
    }

    private static void onWhat() {
        Run.says("Promise 16: what 0, 1, 10 and p; NONE ahead of BAD");
        Run x = master();
        for (int what : new int[] {-1, 2, 9, 11, 16, Run.LEAST, Run.LEAST + 9, Run.GREATEST}) {
            x.due(-1, "on", 0, what).due(-1, "on", 61, what).due(-1, "on", -1, what);
        }
        new Run().due(-1, "on", 0, 10).due(0, "on", 0, 0).due(0, "on", 60, 1).due(-2, "on", 61, 1);
    }

    private static void beyondTheLastDay() {
        Run.says("Terms: DAYS beyond 9999, too");
        // 9999 is d=9 and s=3; 10058 is d=8 and s=6, and is the last day whose night is looked at.
        Run x = master().does("mind", 0, 3).does("deed", 0, 2, 0).until(9999).does("mind", 0, 3);
        x.house("lose 1 d=8&s=6&f=0;lose 1 d=9&s=0&f=1");
        x.due(3, "on", 59, 10).due(2, "on", 60, 10).due(1, "on", 60, 1).due(1, "on", 60, 0);
        x.due(1, "mean", 60, 0).due(2, "mean", 59, 0);
        // 10018 is d=8 and s=1: its night is the 20th from 9999 on.
        x.house("lose 1 d=8&s=1&f=0").due(1, "knew", 0, 1, 19, 0).due(0, "knew", 0, 1, 20, 0);
        x.due(2, "knew", 0, 2, 20, 0).due(1, "knew", 0, 2, 19, 0);
        Run.says("Terms: ENDS beyond 9999, too");
        Run y = master().until(9999).does("mind", 0, 255).house("lose 1 d=8&s=5;lose 1 d=7&s=4&f=0");
        y.times(8, "plan", 0, 0).due(8, "ends", 0).does("plan", 0, 0).due(7, "ends", 0).does("plan", 0, 0);
        y.due(0, "ends", 0).due(9999, "told", 0).due(255, "of", 0, 2);
    }

    private static void seenNights() {
        Run.says("Terms: SEEN: NIGHTS n (0 .. 20) from now: whether it KEEPS in the NIGHT behind the DAY then");
        // Of the days 0 .. 20 only 20 is d=0 and s=6.
        Run x = master().house("lose 1 d=0&s=6").does("see", 0, 0, 20, false).due(-5, "wrong");
        x.does("see", 0, 0, 19, true).due(-5, "wrong").does("see", 0, 0, 0, true).due(-5, "wrong");
        x.does("see", 0, 0, 19, false).due(3, "wrong");
        master().house("lose 1 d=0&s=6").does("see", 0, 0, 20, true).due(0, "wrong");
        Run.says("Terms: SEEN beyond 9999, too");
        // 10019 is d=9 and s=2.
        master().until(9999).house("lose 1 d=9&s=2").does("see", 0, 7, 20, false).due(-5, "wrong")
            .due(10, "can", 0, 0).does("see", 0, 7, 19, false).due(1, "wrong").due(0, "can", 0, 0);
    }

    private static void seenFromNow() {
        Run.says("Terms: all that follows is asked, goes on from how all is");
        Run x = new Run().does("master", 2, 0).does("see", 0, 0, 0, true).due(-5, "wrong");
        x.does("pass", 1).due(0, "wrong").due(0, "can", 0, 0).does("pass", 1).due(-5, "wrong").due(10, "can", 0, 0);
    }

    private static void wrongRows() {
        Run.says("Promise 18: the first row of SEEN that is not so (-5: all are)");
        Run x = master().due(-5, "wrong");
        x.does("see", 0, 0, 0, true).due(-5, "wrong").does("see", 0, 7, 0, false).due(1, "wrong");
        x.does("see", 0, 0, 0, false).due(1, "wrong").does("see", -1, 0, 0, true).due(-5, "wrong");
        x.does("see", 0, 0, 0, false).due(0, "wrong").does("see", -1, 0, 0, true);
        x.times(4, "see", 0, 0, 0, true).due(-5, "wrong").does("see", 0, 0, 0, false).due(4, "wrong");
        Run.says("Promise 18: a MIND does not matter to what it KEEPS");
        master().does("see", 0, 0, 0, true).does("mind", 0, 0).due(-5, "wrong");
    }

    private static void canNumbers() {
        Run.says("Promise 19: what 0, 1; NONE");
        Run x = master();
        for (int what : new int[] {-1, 2, Run.LEAST, Run.GREATEST}) {
            x.due(-1, "can", 0, what).due(-1, "can", 1, what);
        }
        x.due(-1, "can", 1, 0).due(-1, "can", -1, 0).due(-1, "can", 6, 1);
        Run.says("Terms: CAN: how many numbers v (0 .. 9); the least (-5: none)");
        x.due(10, "can", 0, 0).due(0, "can", 0, 1).does("see", 0, 0, 0, false).due(0, "can", 0, 0).due(-5, "can", 0, 1);
        Run.says("Terms: CAN: all of SEEN that is of it, and of no other");
        x.does("master", 0, 5).due(10, "can", 1, 0).due(0, "can", 1, 1);
        Run y = new Run().times(6, "master", 0, 0).does("see", 5, 0, 0, false).does("see", 1, 0, 0, true);
        y.due(0, "wrong").due(0, "can", 5, 0).due(10, "can", 0, 0).due(10, "can", 1, 0);
    }

    private static void canByTheHouse() {
        Run.says("Terms: CAN: 0 and 9 are looked at, too");
        Run x = new Run().does("master", 0, 5).house("lose 1 v<9").does("see", 0, 0, 0, true);
        x.due(1, "can", 0, 0).due(9, "can", 0, 1).due(0, "wrong").house("lose 1 v>0");
        x.due(1, "can", 0, 0).due(0, "can", 0, 1).house("lose 1 v=0").due(9, "can", 0, 0).due(1, "can", 0, 1);
        x.house("lose 1 v=9").due(9, "can", 0, 0).due(0, "can", 0, 1).due(5, "of", 0, 1);
        Run.says("Terms: CAN: by its KIND, were that its v");
        Run y = new Run().does("master", 1, 0).house("lose 2 f<9").does("see", 0, 7, 0, true);
        y.due(2, "can", 0, 0).due(8, "can", 0, 1).does("see", 0, 0, 0, false).due(0, "can", 0, 0).due(-5, "can", 0, 1);
        new Run().does("master", 4, 0).does("see", 0, 1, 0, false).due(2, "can", 0, 0).due(1, "can", 0, 1);
        new Run().does("master", 5, 0).does("see", 0, 1, 1, false).due(4, "can", 0, 0).due(0, "can", 0, 1);
    }

    private static void knewNumbers() {
        Run.says("Promise 20: NONE: master, what; BAD: facts, n (0 .. 20)");
        Run x = master();
        for (int what : new int[] {-1, 2, Run.LEAST, Run.GREATEST}) {
            x.due(-1, "knew", 0, 0, 0, what).due(-1, "knew", 0, 256, 21, what);
        }
        x.due(-1, "knew", 1, 256, 21, 0).due(-1, "knew", -1, 0, 0, 0);
        for (int facts : new int[] {-1, 256, Run.LEAST, Run.GREATEST}) {
            x.due(-2, "knew", 0, facts, 0, 0).due(-2, "knew", 0, facts, 20, 1);
        }
        for (int n : new int[] {-1, 21, Run.LEAST, Run.GREATEST}) {
            x.due(-2, "knew", 0, 0, n, 0).due(-2, "knew", 0, 255, n, 1);
        }
        x.due(1, "knew", 0, 0, 0, 0).due(1, "knew", 0, 255, 20, 0).due(255, "knew", 0, 255, 20, 1);
    }

    private static void knewSets() {
        Run.says("Terms: KNEW: how many sets of FACTS (0 .. 255); the least (-5: none)");
        Run x = master().house("lose 1 p=0");
        x.due(1, "knew", 0, 0, 0, 0).due(1, "knew", 0, 255, 0, 0).due(255, "knew", 0, 255, 0, 1);
        x.due(256, "knew", 0, 0, 1, 0).due(0, "knew", 0, 0, 1, 1).due(0, "knew", 0, 1, 1, 0).due(-5, "knew", 0, 1, 1, 1);
        x.house("lose 1 f=7").due(2, "knew", 0, 127, 1, 0).due(127, "knew", 0, 127, 1, 1);
        x.due(0, "knew", 0, 128, 1, 0).due(-5, "knew", 0, 128, 1, 1).due(128, "knew", 0, 128, 0, 1);
        Run.says("Terms: KNEW behind 20 NIGHTS, and no more");
        // Day 19 is d=9 and s=5, day 20 is d=0 and s=6.
        x.house("lose 1 d=9&s=5").due(256, "knew", 0, 0, 20, 0).due(1, "knew", 0, 0, 19, 0);
        x.house("lose 1 d=0&s=6").due(1, "knew", 0, 0, 20, 0).does("pass", 1).due(256, "knew", 0, 0, 20, 0);
        Run.says("Terms: KNEW: were that its MIND now, whatever it is");
        x.does("mind", 0, 255).due(256, "knew", 0, 0, 20, 0).due(255, "of", 0, 2);
    }

    private static void meanNumbers() {
        Run.says("Promise 22: n (0 .. 60); part likewise; NO");
        Run x = master().does("mind", 0, 3).house("lose 1 d=9&s=3&f=0");
        for (int n : new int[] {-1, 61, Run.LEAST, Run.GREATEST}) {
            x.due(Run.NO, "mean", n, 0).due(Run.NO, "mean", n, 1);
        }
        for (int part : new int[] {-1, 2, Run.LEAST, Run.GREATEST}) {
            x.due(Run.NO, "mean", 0, part).due(Run.NO, "mean", 60, part);
        }
        x.due(2, "mean", 0, 0).due(2, "mean", 59, 0).due(1, "mean", 60, 0).due(1, "mean", 60, 1);
    }

    private static void meanOfNone() {
        Run.says("Terms: MEAN (NO: there are none)");
        new Run().due(Run.NO, "mean", 0, 0).due(Run.NO, "mean", 60, 1);
        new Run().does("image").does("master", 0, 0).due(0, "mean", 0, 0).does("undo").due(Run.NO, "mean", 0, 0);
    }

    private static void meanInLowestTerms() {
        Run.says("Terms: MEAN: a fraction in lowest terms");
        Run x = master().due(0, "mean", 0, 0).due(1, "mean", 0, 1).does("mind", 0, 255).due(8, "mean", 0, 0);
        x.due(1, "mean", 0, 1).does("master", 0, 0).due(4, "mean", 0, 0).due(1, "mean", 0, 1);
        x.does("master", 0, 0).due(8, "mean", 0, 0).due(3, "mean", 0, 1);
        x.does("master", 0, 0).does("mind", 3, 3).due(5, "mean", 0, 0).due(2, "mean", 0, 1);
        x.does("master", 0, 0).due(2, "mean", 0, 0).due(1, "mean", 0, 1);
        x.does("master", 0, 0).due(5, "mean", 0, 0).due(3, "mean", 0, 1);
        for (int p = 0; p < 6; p++) {
            x.does("mind", p, 0);
        }
        x.due(0, "mean", 0, 0).due(1, "mean", 0, 1);
        for (int p = 0; p < 6; p++) {
            x.does("mind", p, 255);
        }
        x.due(8, "mean", 0, 0).due(1, "mean", 0, 1).does("mind", 0, 254).due(47, "mean", 0, 0).due(6, "mean", 0, 1);
    }
}
