/** How a butler can be, from nothing to all that it can hold. */
final class States {
    /** Leads a new butler to where it is looked at. */
    interface State {
        void lead(Run x);
    }

    static final State EMPTY = x -> { };
    static final State FURNISHED = States::furnish;
    static final State CROWDED = States::crowd;
    static final State LATE = States::late;

    static final State[] ALL = {EMPTY, FURNISHED, CROWDED, LATE};

    private States() {
    }

    /** Some of everything: three masters, three deeds, three footmen, a house, an image of other things. */
    private static void furnish(Run x) {
        x.does("master", 6, 4).does("mind", 0, 9).does("footman", 5).does("book", 0, 9).does("image");
        x.does("mind", 0, 203).does("master", 4, 9).does("master", 2, 3);
        x.does("row", 0, 0, 2).does("row", 0, 3, 1);
        x.does("mind", 1, 214).does("mind", 2, 85);
        x.does("deed", 0, 3, 0).does("deed", 1, 6, 1).does("deed", 2, 129, 20);
        x.does("footman", 15).does("footman", 250).does("out", 1, true);
        x.house("keep 2 f<4;lose 1 d=3;hours 2");
        x.does("pass", 2);
        x.does("mind", 0, 203).does("mind", 1, 214).does("mind", 2, 85);
        x.does("see", 0, 1, 0, true).does("see", 1, 1, 3, true);
        x.does("plan", 1, 12).does("plan", 0, 0).does("plan", 2, 2);
        x.does("book", 1, 214).does("book", 2, 84);
        x.text("hours 7");
        x.does("tape", 0, 1, 4).does("tape", 1, 1, 3).does("tape", 2, 0, 5).does("tape", 3, 3, 2);
        x.does("tape", 5, 4, 2);
        x.does("item", 0, 0, 203).does("item", 0, 1, 214).does("item", 0, 2, 85).does("item", 0, 3, 203);
        x.does("item", 2, 4, 9).does("item", 3, 1, Long.MAX_VALUE).does("item", 5, 0, 1);
        x.does("act", 0, 2, 9);
    }

    /** Every row is full, and an image holds it but for the minds. */
    private static void crowd(Run x) {
        for (int p = 0; p < 6; p++) {
            x.does("master", p + 1, 9 - p).does("mind", p, 40 * p + 1);
        }
        for (int i = 0; i < 8; i++) {
            x.does("deed", i % 6, 1 << i, i == 7 ? 20 : i);
        }
        for (int i = 0; i < 5; i++) {
            x.does("footman", 3 << i).does("see", i, i, i, i != 2);
        }
        for (int part = 0; part < 4; part++) {
            x.does("row", 5, part, 9 - part);
        }
        for (int i = 0; i < 6; i++) {
            x.house("lose 1 f=" + i);
        }
        x.times(4, "plan", 0, 0).times(3, "plan", 1, 57).times(2, "plan", 2, 3).does("plan", 1, 0);
        x.times(7, "book", 5, 201).does("book", 0, 0);
        x.does("image").does("mind", 0, 255);
        for (int i = 0; i < 6; i++) {
            x.does("tape", i, i % 5, 60).does("item", i, 59, 1);
        }
        for (int i = 0; i < 100; i++) {
            x.does("feed", (int) "hours 7;".charAt(i % 8));
        }
    }

    /** The last day that can come. */
    private static void late(Run x) {
        x.does("master", 5, 2).does("master", 3, 0).does("deed", 0, 6, 3).does("footman", 7);
        x.until(9999);
        x.does("mind", 0, 6).does("mind", 1, 255);
        x.does("see", 0, 1, 20, true).does("book", 1, 255).does("plan", 0, 0).does("plan", 1, 3);
        x.house("keep 1 s=4");
        x.does("tape", 1, 1, 2).does("item", 1, 0, 6);
    }
}
