import java.util.ArrayList;
import java.util.Arrays;
import java.util.HashMap;
import java.util.List;
import java.util.Map;

/**
 * All that a butler shows: by what is asked of it, and, for what no question tells (the bytes of the text,
 * the image, rows told by hand), by how it goes on. Each page is looked at on an object of its own.
 */
final class Portrait {
    private static final Map<States.State, List<long[]>> KNOWN = new HashMap<>();
    private static final List<List<Object[]>> PAGES = pages();

    private Portrait() {
    }

    /** The call is answered so, and nothing has changed behind it. */
    static void refused(States.State state, long want, String name, Object... with) {
        new Looker(state).run.due(want, name, with);
        unchanged(state, name, with);
    }

    /** Nothing has changed behind the call, whatever it answers. */
    static void unchanged(States.State state, String name, Object... with) {
        same(Run.named(name, with) + " changed", state, x -> {
            state.lead(x);
            x.call(name, with);
        });
    }

    /** The call is seen in the portrait: one that shows nothing would pass every test. */
    static void differ(String what, States.State state, String name, Object... with) {
        List<long[]> before = of(state);
        List<long[]> behind = of(x -> {
            state.lead(x);
            x.call(name, with);
        });
        boolean seen = false;
        for (int page = 0; page < PAGES.size(); page++) {
            seen |= !Arrays.equals(before.get(page), behind.get(page));
        }
        Run.note(what + " by " + Run.named(name, with) + " is not seen", seen);
    }

    /** Both show the same on every page. The first is kept, for many are compared with it. */
    static void same(String what, States.State one, States.State other) {
        List<long[]> want = KNOWN.computeIfAbsent(one, Portrait::of);
        List<long[]> got = of(other);
        for (int page = 0; page < PAGES.size(); page++) {
            int at = Arrays.mismatch(want.get(page), got.get(page));
            String seen = at < 0 ? "" : Run.named((String) PAGES.get(page).get(at)[0],
                Arrays.copyOfRange(PAGES.get(page).get(at), 1, PAGES.get(page).get(at).length));
            Run.note(what + " " + seen + " of page " + page, at < 0);
        }
    }

    private static final class Looker {
        final Run run = new Run();

        Looker(States.State state) {
            state.lead(run);
        }
    }

    private static List<long[]> of(States.State state) {
        List<long[]> answers = new ArrayList<>();
        for (List<Object[]> page : PAGES) {
            Run run = new Looker(state).run;
            long[] row = new long[page.size()];
            for (int i = 0; i < row.length; i++) {
                Object[] call = page.get(i);
                row[i] = run.call((String) call[0], Arrays.copyOfRange(call, 1, call.length));
            }
            answers.add(row);
        }
        return answers;
    }

    private static List<List<Object[]>> pages() {
        List<List<Object[]>> pages = new ArrayList<>();
        pages.add(counts());
        pages.add(grips());
        pages.add(askedFor());
        pages.add(items(0));
        pages.add(items(3));
        pages.add(textsBytes());
        pages.add(laterOn());
        pages.add(byUndo(counts()));
        pages.add(byUndo(grips()));
        pages.add(byUndo(laterOn()));
        return pages;
    }

    private static void ask(List<Object[]> page, Object... call) {
        page.add(call);
    }

    private static List<Object[]> counts() {
        List<Object[]> page = new ArrayList<>();
        for (int what = 0; what <= 10; what++) {
            ask(page, "told", what);
            ask(page, "count", what);
        }
        for (int p = 0; p < 6; p++) {
            for (int what = 0; what < 18; what++) {
                ask(page, "of", p, what);
            }
        }
        return page;
    }

    private static List<Object[]> grips() {
        List<Object[]> page = new ArrayList<>();
        for (int p = 0; p < 6; p++) {
            for (int fact = 0; fact < 8; fact++) {
                for (int n = 0; n < 4; n++) {
                    ask(page, "grip", p, fact, n);
                }
            }
        }
        return page;
    }

    private static List<Object[]> askedFor() {
        List<Object[]> page = new ArrayList<>();
        for (int what : new int[] {0, 1, 10, 11, 12, 13, 14, 15}) {
            for (int n : new int[] {0, 1, 3, 60}) {
                ask(page, "on", n, what);
            }
        }
        for (int i = 0; i < 6; i++) {
            ask(page, "lost", i);
            ask(page, "can", i, 0);
            ask(page, "can", i, 1);
            ask(page, "judge", i, 0);
            ask(page, "judge", i, 1);
            ask(page, "mean", i, 0);
            ask(page, "knew", i, 0, 1, 0);
            for (int k = 0; k < 7; k++) {
                ask(page, "taken", i, k);
            }
        }
        for (int facts = 0; facts < 256; facts = 2 * facts + 1) {
            ask(page, "odds", facts, 0);
            ask(page, "odds", facts, 1);
        }
        for (int i = 0; i <= 12; i++) {
            ask(page, "trace", i);
        }
        handRows(page);
        return page;
    }

    private static void handRows(List<Object[]> page) {
        ask(page, "wrong");
        ask(page, "looked");
        ask(page, "ends", 0);
        ask(page, "ends", 1);
    }

    private static List<Object[]> items(int from) {
        List<Object[]> page = new ArrayList<>();
        for (int tape = from; tape < from + 3; tape++) {
            for (int i = 0; i <= 60; i++) {
                ask(page, "read", tape, i);
            }
        }
        return page;
    }

    private static List<Object[]> textsBytes() {
        List<Object[]> page = new ArrayList<>();
        ask(page, "feed", (int) '5');
        ask(page, "house");
        ask(page, "told", 1);
        ask(page, "count", 3);
        page.addAll(grips());
        return page;
    }

    /** Rows told by hand show what stands in them when minds and days are otherwise. */
    private static List<Object[]> laterOn() {
        List<Object[]> page = new ArrayList<>();
        for (int n = 0; n < 4; n++) {
            for (int p = 0; p < 6; p++) {
                ask(page, "mind", p, new int[] {0, 255, 85, 170}[n]);
                ask(page, "can", p, 0);
            }
            handRows(page);
            for (int what = 0; what < 7; what++) {
                ask(page, "told", what);
            }
            ask(page, "pass", 1);
        }
        return page;
    }

    private static List<Object[]> byUndo(List<Object[]> then) {
        List<Object[]> page = new ArrayList<>();
        ask(page, "undo");
        page.addAll(then);
        return page;
    }
}
