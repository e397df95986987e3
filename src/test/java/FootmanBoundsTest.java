/** The edges that the document names for footmen, crews and odds: promises 8 to 10, 14 (7 to 10) and 21. */
public final class FootmanBoundsTest {
    private static final int[] NO_SETS = {-1, 256, 257, Run.LEAST, Run.GREATEST};

    public static void main(String[] args) {
        sets();
        numbers();
        full();
        outAndIn();
        allHeld();
        leastCrew();
        fewestCrew();
        crewOfNobody();
        lost();
        safe();
        oddsRefused();
        oddsOfNone();
        oddsOfOne();
        oddsOfWhoIsOut();
        lowestTerms();
        Run.end();
    }

    private static Run holding(int... facts) {
        Run x = new Run();
        for (int set : facts) {
            x.does("footman", set);
        }
        return x;
    }

    private static void sets() {
        Run.says("Promise 8: FACTS (0 .. 255); BAD: facts");
        Run x = new Run();
        for (int facts : NO_SETS) {
            x.due(-2, "footman", facts);
        }
        x.due(0, "count", 2).due(0, "footman", 0).due(1, "footman", 255).due(255, "told", 7).due(2, "count", 2);
    }

    private static void numbers() {
        Run.says("Terms: FOOTMEN 0 .. 4, as they come: a number that has not come is none");
        Run x = new Run();
        for (int f = 0; f < 5; f++) {
            x.due(-1, "out", f, true).due(-1, "out", f, false).due(-1, "lost", f);
            x.due(f, "footman", 1 << f);
            x.due(1 << f, "lost", f).due(0, "out", f, false).due(f + 1, "count", 2);
        }
        Run.says("Promise 9: NONE; Promise 10: NONE");
        for (int f : new int[] {-1, 5, 6, 31, 32, Run.LEAST, Run.GREATEST}) {
            x.due(-1, "out", f, true).due(-1, "out", f, false).due(-1, "lost", f);
        }
        x.due(0, "told", 10);
    }

    private static void full() {
        Run.says("Promise 8: FULL: 5");
        Run x = holding(1, 2, 4, 8).due(4, "footman", 16).due(-4, "footman", 32).due(-4, "footman", 0);
        x.due(-4, "footman", 255).due(5, "count", 2).due(31, "told", 7).due(31, "told", 8);
        Run.says("Promise 8: BAD ahead of FULL");
        x.due(-2, "footman", 256).due(-2, "footman", -1).due(31, "told", 7);
    }

    private static void outAndIn() {
        Run.says("Promise 9: is OUT, or not (not at first): whether it was");
        Run x = holding(1, 2, 4, 8, 16).due(0, "told", 10);
        x.due(0, "out", 4, true).due(1, "out", 4, true).due(16, "told", 10);
        x.due(0, "out", 0, true).due(17, "told", 10).due(1, "out", 4, false).due(0, "out", 4, false);
        x.due(1, "told", 10).due(0, "out", 1, false).due(1, "told", 10);
        for (int f = 0; f < 5; f++) {
            x.does("out", f, true);
        }
        x.due(31, "told", 10);
        Run.says("Terms: a FOOTMAN who comes is not OUT, even in the place of one who was");
        Run y = new Run().does("image").does("footman", 3).does("out", 0, true).due(0, "undo");
        y.due(0, "told", 10).due(0, "footman", 3).due(0, "told", 10).due(0, "out", 0, true);
    }

    private static void allHeld() {
        Run.says("Terms: ALL HELD: FACTS the FOOTMEN who are not OUT HOLD, together");
        new Run().due(0, "told", 7);
        holding(0).due(0, "told", 7);
        Run x = holding(1, 3, 128).due(131, "told", 7).does("out", 2, true).due(3, "told", 7);
        x.does("out", 1, true).due(1, "told", 7).does("out", 0, true).due(0, "told", 7);
    }

    private static void leastCrew() {
        Run.says("Terms: CREW: of several the least as bits");
        holding(7, 7, 7, 7, 7).due(1, "told", 8).does("out", 0, true).due(2, "told", 8)
            .does("out", 1, true).does("out", 2, true).does("out", 3, true).due(16, "told", 8);
        holding(1, 2, 1, 2).due(3, "told", 8).does("out", 1, true).due(9, "told", 8)
            .does("out", 0, true).due(12, "told", 8);
        holding(3, 6, 12, 9).due(5, "told", 8);
        holding(0, 0, 3, 5, 6).due(12, "told", 8);
    }

    private static void fewestCrew() {
        Run.says("Terms: CREW: the set with the fewest of these FOOTMEN");
        holding(1, 2, 4, 8, 15).due(16, "told", 8).does("out", 4, true).due(15, "told", 8);
        holding(7, 3, 12, 8, 240).due(21, "told", 8);
        holding(1, 2, 4, 8, 16).due(31, "told", 8);
        holding(255, 1, 2).due(1, "told", 8);
        holding(1, 2, 3, 4).due(12, "told", 8);
    }

    private static void crewOfNobody() {
        Run.says("Terms: CREW of nothing that is HELD: nobody");
        new Run().due(0, "told", 8);
        holding(0, 0, 0, 0, 0).due(0, "told", 8);
        holding(1).due(1, "told", 8).does("out", 0, true).due(0, "told", 8);
        holding(0, 5).due(2, "told", 8).does("out", 1, true).due(0, "told", 8);
    }

    private static void lost() {
        Run.says("Terms: LOST: FACTS of ALL HELD that no other one, not OUT, HOLDS");
        holding(255).due(255, "lost", 0);
        holding(0).due(0, "lost", 0);
        Run x = holding(7, 3, 4).due(0, "lost", 0).due(0, "lost", 1).due(0, "lost", 2);
        x.does("out", 1, true).due(3, "lost", 0).due(0, "lost", 2);
        Run.says("Terms: LOST (0, if it is OUT)");
        x.due(0, "lost", 1).does("out", 0, true).due(0, "lost", 0).due(4, "lost", 2);
        holding(255).does("out", 0, true).due(0, "lost", 0).does("out", 0, false).due(255, "lost", 0);
    }

    private static void safe() {
        Run.says("Terms: SAFE: whether nothing is LOST with any one (1 or 0)");
        new Run().due(1, "told", 9);
        holding(0).due(1, "told", 9);
        holding(1).due(0, "told", 9).does("out", 0, true).due(1, "told", 9);
        holding(3, 3).due(1, "told", 9).does("out", 1, true).due(0, "told", 9);
        holding(3, 3, 0, 0, 128).due(0, "told", 9).does("out", 4, true).due(1, "told", 9);
        holding(1, 2, 2, 2, 2).due(0, "told", 9);
    }

    private static void oddsRefused() {
        Run.says("Promise 21: NO: facts, part");
        Run x = holding(1);
        for (int facts : NO_SETS) {
            x.due(Run.NO, "odds", facts, 0).due(Run.NO, "odds", facts, 1);
        }
        for (int part : new int[] {-1, 2, Run.LEAST, Run.GREATEST}) {
            x.due(Run.NO, "odds", 0, part).due(Run.NO, "odds", 255, part);
        }
        x.due(1, "odds", 0, 0).due(1, "odds", 0, 1).due(0, "odds", 255, 0).due(1, "odds", 255, 1);
    }

    private static void oddsOfNone() {
        Run.says("Terms: ODDS (NO: there are none)");
        new Run().due(Run.NO, "odds", 0, 0).due(Run.NO, "odds", 255, 1);
        new Run().does("image").does("footman", 1).does("undo").due(Run.NO, "odds", 0, 0);
    }

    private static void oddsOfOne() {
        Run.says("Terms: ODDS: if the only FOOTMAN is OUT, the others HOLD nothing");
        holding(255).due(0, "odds", 1, 0).due(1, "odds", 1, 1).due(1, "odds", 0, 0).due(1, "odds", 0, 1);
        holding(255).does("out", 0, true).due(0, "odds", 1, 0).due(1, "odds", 0, 0);
    }

    private static void oddsOfWhoIsOut() {
        Run.says("Terms: ODDS: one FOOTMAN, each alike likely, is OUT (too)");
        Run x = holding(1, 2, 4).due(2, "odds", 1, 0).due(3, "odds", 1, 1);
        x.does("out", 2, true).due(2, "odds", 1, 0).due(3, "odds", 1, 1).due(1, "odds", 3, 0).due(3, "odds", 3, 1);
        x.due(0, "odds", 4, 0).due(1, "odds", 4, 1);
        x.does("out", 0, true).does("out", 1, true).due(0, "odds", 1, 0).due(1, "odds", 1, 1);
        x.due(1, "odds", 0, 0).due(1, "odds", 0, 1);
    }

    private static void lowestTerms() {
        Run.says("Terms: ODDS: a fraction in lowest terms");
        holding(1, 2, 1, 4).due(1, "odds", 6, 0).due(2, "odds", 6, 1);
        holding(1, 2).due(1, "odds", 1, 0).due(2, "odds", 1, 1).due(0, "odds", 3, 0).due(1, "odds", 3, 1);
        holding(1, 2, 0, 0).due(1, "odds", 3, 0).due(2, "odds", 3, 1).due(3, "odds", 1, 0).due(4, "odds", 1, 1);
        holding(1, 0, 0, 0, 0).due(4, "odds", 1, 0).due(5, "odds", 1, 1).due(1, "odds", 0, 0).due(1, "odds", 0, 1);
    }
}
