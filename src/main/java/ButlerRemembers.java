import java.util.Arrays;

/** Masters who forget by night, and the butler who remembers for them. */
public final class ButlerRemembers {
    public static final int NONE = -1, BAD = -2, STATE = -3, FULL = -4;
    public static final long NO = Long.MIN_VALUE;

    private static final int NEVER = -5;
    private static final int AHEAD_OF_FAULT = -10;
    private static final int NOTHING = -11, CAST = -12, PLACE = -13, SIZE = -14;
    private static final int GRIP_NONE = -10001, GRIP_BAD = -10002;

    private static final int FACTS = 8, ALL_FACTS = 255;
    private static final int KINDS = 7, TOLD_KIND = 6, ROW_LENGTH = 4, GREATEST_V = 9;
    private static final int MASTER_LIMIT = 6, DEED_LIMIT = 8, FOOTMAN_LIMIT = 5, HOUSE_LIMIT = 6;
    private static final int SEEN_LIMIT = 5, PLAN_LIMIT = 10, BOOK_LIMIT = 8;
    private static final int TEXT_LIMIT = 100, SIGN_LIMIT = 127;
    private static final int NIGHT_LIMIT = 60, NEAR_NIGHTS = 20, LAST_DAY = 9999;
    private static final int TAPE_LIMIT = 6, ITEM_LIMIT = 60;
    private static final int SHORT_ROW = 100;
    private static final int ANY_DUE = -1, NOBODY = -1;

    private final Household now = new Household();
    private final Household saved = new Household();
    private boolean imageTaken = false;
    private final Master[] manners = {
        new Master(), new Heir(), new Duchess(), new Cousin(), new Bishop(), new Daughter(), new Told()
    };
    private final House bare = new House();
    private final House[] houses = new House[HOUSE_LIMIT];
    private int houseCount = 0;
    private final byte[] text = new byte[TEXT_LIMIT];
    private int textLength = 0;
    private final Turn turn = new Turn();
    private final Tape[] tapes = new Tape[TAPE_LIMIT];
    private final int[] sums = new int[FACTS];
    // Minds on a night that is only asked about: the true ones stay as they are.
    private final int[] dream = new int[MASTER_LIMIT];

    public ButlerRemembers() {
        for (int i = 0; i < HOUSE_LIMIT; i++) {
            houses[i] = new House();
        }
        for (int i = 0; i < TAPE_LIMIT; i++) {
            tapes[i] = new Tape();
        }
    }

    // ---- masters, deeds, footmen, houses

    public int master(int kind, int v) {
        if (kind < 0 || kind >= KINDS) {
            return NONE;
        }
        if (v < 0 || v > GREATEST_V) {
            return BAD;
        }
        return now.addMaster(kind, v);
    }

    public int of(int master, int what) {
        if (!now.hasMaster(master)) {
            return NONE;
        }
        if (what >= 10 && what < 10 + FACTS) {
            return nightsKept(master, what - 10);
        }
        switch (what) {
            case 0: return now.kinds[master];
            case 1: return now.vs[master];
            case 2: return now.minds[master];
            case 3: return nightsUntilBlank(master);
            default: return NONE;
        }
    }

    public int grip(int master, int fact, int n) {
        if (!now.hasMaster(master) || !isFact(fact)) {
            return GRIP_NONE;
        }
        if (n < 0 || n > NIGHT_LIMIT) {
            return GRIP_BAD;
        }
        int v = now.vs[master];
        int day = now.day + n;
        holding().weigh(master, now.kinds[master], v, day, sums);
        return weighedGrip(master, v, day, fact);
    }

    public int tell(int master, int fact) {
        if (!now.hasMaster(master) || !isFact(fact)) {
            return NONE;
        }
        now.minds[master] |= 1 << fact;
        return now.minds[master];
    }

    public int mind(int master, int facts) {
        if (!now.hasMaster(master)) {
            return NONE;
        }
        if (!isSet(facts)) {
            return BAD;
        }
        int before = now.minds[master];
        now.minds[master] = facts;
        return before;
    }

    public int deed(int master, int facts, int due) {
        if (!now.hasMaster(master)) {
            return NONE;
        }
        if (!isSet(facts) || due < 0 || due > NEAR_NIGHTS) {
            return BAD;
        }
        return now.addDeed(master, facts, due);
    }

    public int footman(int facts) {
        return isSet(facts) ? now.addFootman(facts) : BAD;
    }

    public int out(int footman, boolean is) {
        if (!now.hasFootman(footman)) {
            return NONE;
        }
        int bit = 1 << footman;
        int before = now.isOut(footman) ? 1 : 0;
        now.outs = is ? now.outs | bit : now.outs & ~bit;
        return before;
    }

    public int lost(int footman) {
        return now.hasFootman(footman) ? now.lostWith(footman) : NONE;
    }

    public int row(int master, int part, int n) {
        if (!now.hasMaster(master) || part < 0 || part >= ROW_LENGTH) {
            return NONE;
        }
        if (n < 0 || n > 9) {
            return BAD;
        }
        if (now.kinds[master] != TOLD_KIND) {
            return STATE;
        }
        int place = master * ROW_LENGTH + part;
        int before = now.rows[place];
        now.rows[place] = n;
        return before;
    }

    public int feed(int sign) {
        if (sign < 0 || sign > SIGN_LIMIT) {
            return BAD;
        }
        if (textLength >= TEXT_LIMIT) {
            return FULL;
        }
        text[textLength] = (byte) sign;
        textLength++;
        return textLength;
    }

    public int house() {
        if (houseCount >= HOUSE_LIMIT) {
            return FULL;
        }
        int fault = houses[houseCount].learn(text, textLength);
        textLength = 0;
        if (fault != House.FAULTLESS) {
            return AHEAD_OF_FAULT - fault;
        }
        now.held = houseCount;
        houseCount++;
        return now.held;
    }

    public int told(int what) {
        switch (what) {
            case 0: return now.day;
            case 1: return holding().hours;
            case 2: return now.doneWith(now.minds);
            case 3: return tellingsNow();
            case 4: return tellingsByDay(false);
            case 5: return tellingsByDay(true);
            case 6: return tellingsByDay(true) > holding().hours ? 1 : 0;
            case 7: return now.heldWithout(NOBODY);
            case 8: return now.smallestCrew();
            case 9: return now.isSafe() ? 1 : 0;
            case 10: return now.outs;
            default: return NONE;
        }
    }

    // ---- nights

    public int pass(int n) {
        if (n < 0 || n > NIGHT_LIMIT) {
            return BAD;
        }
        if (now.day + n > LAST_DAY) {
            return STATE;
        }
        sleep(now.minds, now.day, n);
        now.day += n;
        return now.day;
    }

    public int on(int n, int what) {
        int master = what < 10 ? NOBODY : what - 10;
        if (what != 0 && what != 1 && !now.hasMaster(master)) {
            return NONE;
        }
        if (n < 0 || n > NIGHT_LIMIT) {
            return BAD;
        }
        if (now.hasMaster(master)) {
            return keptThrough(master, now.minds[master], n);
        }
        dreamOfNow();
        sleep(dream, now.day, n);
        return what == 0 ? now.doneWith(dream) : now.knownIn(dream);
    }

    // ---- seen, odds

    public int see(int master, int fact, int n, boolean keeps) {
        if (master == -1) {
            now.seenCount = 0;
            return 0;
        }
        if (!now.hasMaster(master) || !isFact(fact)) {
            return NONE;
        }
        if (n < 0 || n > NEAR_NIGHTS) {
            return BAD;
        }
        return now.addSeen(master, fact, n, keeps);
    }

    public int wrong() {
        for (int i = 0; i < now.seenCount; i++) {
            int master = now.seenRows[i][Household.SEEN_MASTER];
            if (now.hasMaster(master) && !isSo(i, now.vs[master])) {
                return i;
            }
        }
        return NEVER;
    }

    public int can(int master, int what) {
        if (!now.hasMaster(master) || !isPart(what)) {
            return NONE;
        }
        int many = 0;
        int least = NEVER;
        for (int v = GREATEST_V; v >= 0; v--) {
            if (fitsSeen(master, v)) {
                many++;
                least = v;
            }
        }
        return what == 0 ? many : least;
    }

    public int knew(int master, int facts, int n, int what) {
        if (!now.hasMaster(master) || !isPart(what)) {
            return NONE;
        }
        if (!isSet(facts) || n < 0 || n > NEAR_NIGHTS) {
            return BAD;
        }
        int stays = keptThrough(master, ALL_FACTS, n);
        boolean possible = (facts & ~stays) == 0;
        if (what == 0) {
            // Each fact that does not stay may have been known or not.
            return possible ? 1 << (FACTS - Integer.bitCount(stays)) : 0;
        }
        return possible ? facts : NEVER;
    }

    public long odds(int facts, int part) {
        if (!isSet(facts) || !isPart(part)) {
            return NO;
        }
        int good = 0;
        for (int i = 0; i < now.footmanCount; i++) {
            if ((facts & ~now.heldWithout(i)) == 0) {
                good++;
            }
        }
        return partOfFraction(good, now.footmanCount, part);
    }

    public long mean(int n, int part) {
        if (n < 0 || n > NIGHT_LIMIT || !isPart(part)) {
            return NO;
        }
        dreamOfNow();
        sleep(dream, now.day, n);
        return partOfFraction(now.knownIn(dream), now.masterCount, part);
    }

    // ---- plans, books

    public int plan(int what, int n) {
        if (what == -1) {
            now.planCount = 0;
            return 0;
        }
        if (what < 0 || what > 2) {
            return NONE;
        }
        if (what == 1 && (n < 0 || !now.hasMaster(n / 10) || !isFact(n % 10))) {
            return NONE;
        }
        if (what == 2 && !now.hasMaster(n)) {
            return NONE;
        }
        return now.addPlan(what, n);
    }

    public int ends(int what) {
        if (!isPart(what)) {
            return NONE;
        }
        dreamOfNow();
        int nights = 0;
        for (int i = 0; i < now.planCount; i++) {
            if (now.planRows[i][Household.PLAN_WHAT] == 0) {
                sleep(dream, now.day + nights, 1);
                nights++;
            } else {
                dreamOfRow(i);
            }
        }
        return what == 0 ? now.knownIn(dream) : now.doneWith(dream);
    }

    public int book(int master, int facts) {
        if (master == -1) {
            now.bookCount = 0;
            return 0;
        }
        if (!now.hasMaster(master)) {
            return NONE;
        }
        if (!isSet(facts)) {
            return BAD;
        }
        return now.addBook(master, facts);
    }

    public int looked() {
        for (int i = 0; i < now.bookCount; i++) {
            int master = now.bookRows[i][Household.BOOK_MASTER];
            if (now.hasMaster(master) && now.minds[master] != now.bookRows[i][Household.BOOK_FACTS]) {
                return i;
            }
        }
        return NEVER;
    }

    // ---- judging, the image, acts, tapes

    public int judge(int tape, int i) {
        if (!isTape(tape)) {
            return NONE;
        }
        Tape told = tapes[tape];
        if (told.holdsRow() && told.sort != Tape.SHORTS) {
            return CAST;
        }
        for (int p = 0; p < now.masterCount; p++) {
            // As a long, for i and p together may be beyond an int.
            long place = (long) i + p;
            if (i < 0 || !told.hasPlace(place)) {
                return SHORT_ROW + p;
            }
            if (told.items[(int) place] != now.minds[p]) {
                return p;
            }
        }
        return NEVER;
    }

    public int image() {
        saved.copyFrom(now);
        imageTaken = true;
        return now.masterCount;
    }

    public int undo() {
        if (!imageTaken) {
            return STATE;
        }
        now.copyFrom(saved);
        return now.masterCount;
    }

    public int act(int master, int act, int x) {
        turn.clear();
        if (!now.hasMaster(master) || act < 0 || act > 2) {
            return 0;
        }
        turn.number = master;
        turn.v = now.vs[master];
        Master one = mannersOf(master);
        switch (act) {
            case 0: return one.dines(turn, x);
            case 1: return one.nods(turn, x);
            default: return one.tells(turn, x);
        }
    }

    public int trace(int i) {
        return i >= 0 && i < turn.keptCount() ? turn.bodies[i] : NONE;
    }

    public int taken(int master, int k) {
        if (k < 0 || k >= KINDS) {
            return BAD;
        }
        if (!now.hasMaster(master)) {
            return NOTHING;
        }
        return isUnder(mannersOf(master), k) ? now.kinds[master] : CAST;
    }

    public int count(int what) {
        switch (what) {
            case 0: return now.masterCount;
            case 1: return now.deedCount;
            case 2: return now.footmanCount;
            case 3: return houseCount;
            case 4: return now.seenCount;
            case 5: return now.planCount;
            case 6: return now.bookCount;
            case 7: return textLength;
            case 8: return turn.ran;
            default: return BAD;
        }
    }

    public int tape(int tape, int sort, int n) {
        if (!isTape(tape)) {
            return NONE;
        }
        if (sort == Tape.EMPTY) {
            tapes[tape].become(Tape.EMPTY, 0);
            return 1;
        }
        if (sort < 0 || sort > Tape.BOOLEANS || n > ITEM_LIMIT) {
            return BAD;
        }
        if (n < 0) {
            return SIZE;
        }
        tapes[tape].become(sort, n);
        return 1;
    }

    public int item(int tape, int i, long v) {
        if (!isTape(tape)) {
            return NONE;
        }
        Tape one = tapes[tape];
        if (!one.holdsRow()) {
            return NOTHING;
        }
        if (!one.hasPlace(i)) {
            return PLACE;
        }
        one.items[i] = one.narrowed(v);
        return 1;
    }

    public long read(int tape, int i) {
        if (!isTape(tape) || !tapes[tape].hasPlace(i)) {
            return NO;
        }
        return tapes[tape].items[i];
    }

    public int shift(int tape, int i, int other, int j, int n) {
        if (!isTape(tape) || !isTape(other)) {
            return NONE;
        }
        Tape from = tapes[tape];
        Tape to = tapes[other];
        if (!from.holdsRow() || !to.holdsRow()) {
            return NOTHING;
        }
        if (from.sort != to.sort) {
            return CAST;
        }
        if (!from.hasStretch(i, n) || !to.hasStretch(j, n)) {
            return PLACE;
        }
        System.arraycopy(from.items, i, to.items, j, n);
        return n;
    }

    // ---- what is asked of numbers

    private static boolean isFact(int fact) {
        return fact >= 0 && fact < FACTS;
    }

    private static boolean isSet(int facts) {
        return facts >= 0 && facts <= ALL_FACTS;
    }

    private static boolean isPart(int part) {
        return part == 0 || part == 1;
    }

    private static boolean isTape(int tape) {
        return tape >= 0 && tape < TAPE_LIMIT;
    }

    private static boolean isUnder(Master one, int kind) {
        switch (kind) {
            case 0: return true;
            case 1: return one instanceof Heir;
            case 2: return one instanceof Duchess;
            case 3: return one instanceof Cousin;
            case 4: return one instanceof Bishop;
            case 5: return one instanceof Daughter;
            case 6: return one instanceof Told;
            default: return false;
        }
    }

    private static long partOfFraction(int above, int below, int part) {
        if (above < 0 || below <= 0) {
            return NO;
        }
        int divisor = below;
        while (divisor > 1 && (above % divisor != 0 || below % divisor != 0)) {
            divisor--;
        }
        return part == 0 ? above / divisor : below / divisor;
    }

    // ---- grip and nights

    private House holding() {
        int held = now.held;
        return held >= 0 && held < houseCount ? houses[held] : bare;
    }

    private Master mannersOf(int master) {
        int kind = now.kinds[master];
        return kind >= 0 && kind < KINDS ? manners[kind] : manners[0];
    }

    /** The grip on a fact, once the sums of that day have been weighed. */
    private int weighedGrip(int master, int v, int day, int fact) {
        int more = now.rows[master * ROW_LENGTH + day % ROW_LENGTH];
        return mannersOf(master).firmness(sums[fact], fact, day, v, more);
    }

    /** Which of the facts stay in the night behind that day, were v the master's. */
    private int keptInNight(int master, int v, int day, int facts) {
        if (facts == 0 || !now.hasMaster(master)) {
            return 0;
        }
        holding().weigh(master, now.kinds[master], v, day, sums);
        int kept = 0;
        for (int fact = 0; fact < FACTS; fact++) {
            int bit = 1 << fact;
            if ((facts & bit) != 0 && weighedGrip(master, v, day, fact) > 0) {
                kept |= bit;
            }
        }
        return kept;
    }

    private int keptThrough(int master, int facts, int nights) {
        int kept = facts;
        for (int n = 0; n < nights; n++) {
            kept = keptInNight(master, now.vs[master], now.day + n, kept);
        }
        return kept;
    }

    private void sleep(int[] minds, int day, int nights) {
        for (int n = 0; n < nights; n++) {
            for (int p = 0; p < now.masterCount; p++) {
                minds[p] = keptInNight(p, now.vs[p], day + n, minds[p]);
            }
        }
    }

    private int nightsKept(int master, int fact) {
        for (int n = 0; n < NIGHT_LIMIT; n++) {
            if (keptInNight(master, now.vs[master], now.day + n, 1 << fact) == 0) {
                return n;
            }
        }
        return NIGHT_LIMIT;
    }

    private int nightsUntilBlank(int master) {
        int mind = now.minds[master];
        for (int n = 0; n <= NIGHT_LIMIT; n++) {
            if (mind == 0) {
                return n;
            }
            mind = keptInNight(master, now.vs[master], now.day + n, mind);
        }
        return NEVER;
    }

    // ---- dreams: what would be

    private void dreamOfNow() {
        System.arraycopy(now.minds, 0, dream, 0, MASTER_LIMIT);
    }

    private void dreamOfRow(int i) {
        boolean tells = now.planRows[i][Household.PLAN_WHAT] == 1;
        int with = now.planRows[i][Household.PLAN_WITH];
        int master = tells ? with / 10 : with;
        if (now.hasMaster(master)) {
            dream[master] = tells ? dream[master] | 1 << (with % 10) : 0;
        }
    }

    private int tellingsNow() {
        dreamOfNow();
        return tellDreamers(ANY_DUE);
    }

    /** Tells each dreamer what its deeds of that due take and it does not know: how many tellings. */
    private int tellDreamers(int due) {
        int tellings = 0;
        for (int p = 0; p < now.masterCount; p++) {
            int missing = now.takenBy(p, due) & ~dream[p];
            tellings += Integer.bitCount(missing);
            dream[p] |= missing;
        }
        return tellings;
    }

    private int tellingsByDay(boolean greatest) {
        dreamOfNow();
        int together = 0;
        int most = 0;
        for (int n = 0; n <= NEAR_NIGHTS; n++) {
            int tellings = tellDreamers(n);
            together += tellings;
            most = Math.max(most, tellings);
            sleep(dream, now.day + n, 1);
        }
        return greatest ? most : together;
    }

    // ---- what was seen

    private boolean isSo(int seen, int v) {
        int[] row = now.seenRows[seen];
        int bit = 1 << row[Household.SEEN_FACT];
        int day = now.day + row[Household.SEEN_NIGHTS];
        int kept = keptInNight(row[Household.SEEN_MASTER], v, day, bit);
        return (kept != 0) == (row[Household.SEEN_KEPT] != 0);
    }

    private boolean fitsSeen(int master, int v) {
        for (int i = 0; i < now.seenCount; i++) {
            if (now.seenRows[i][Household.SEEN_MASTER] == master && !isSo(i, v)) {
                return false;
            }
        }
        return true;
    }

    // ---- kinds

    /** Kind 0. The kinds hold nothing: who acts stands in the turn, who keeps in the arguments. */
    private static class Master {
        int firmness(int sum, int fact, int day, int v, int more) {
            return sum;
        }

        int dines(Turn turn, int x) {
            turn.begin(10);
            return x + turn.number;
        }

        int nods(Turn turn, int x) {
            turn.begin(11);
            return dines(turn, x) - turn.v;
        }

        int tells(Turn turn, int x) {
            turn.begin(12);
            return nods(turn, x) * 2;
        }
    }

    private static class Heir extends Master {
        int firmness(int sum, int fact, int day, int v, int more) {
            return super.firmness(sum, fact, day, v, more) + (fact < v ? 2 : 0);
        }
        int nods(Turn turn, int x) {
            turn.begin(20);
            return super.nods(turn, x) ^ 6;
        }
    }

    private static class Duchess extends Master {
        int firmness(int sum, int fact, int day, int v, int more) {
            return day % 2 != 0 ? 0 : super.firmness(sum, fact, day, v, more);
        }
        int dines(Turn turn, int x) {
            turn.begin(30);
            return super.dines(turn, x * 3);
        }
    }

    private static class Cousin extends Master {
        int firmness(int sum, int fact, int day, int v, int more) {
            return super.firmness(sum, fact, day, v, more) / 2;
        }
        int tells(Turn turn, int x) {
            turn.begin(40);
            return super.tells(turn, x) + nods(turn, 1);
        }
    }

    private static final class Bishop extends Heir {
        int firmness(int sum, int fact, int day, int v, int more) {
            return fact == v % FACTS ? 0 : super.firmness(sum, fact, day, v, more);
        }
        int dines(Turn turn, int x) {
            turn.begin(50);
            return -super.dines(turn, x);
        }
        int nods(Turn turn, int x) {
            turn.begin(51);
            return super.nods(turn, x + 1);
        }
    }

    private static final class Daughter extends Duchess {
        int firmness(int sum, int fact, int day, int v, int more) {
            return super.firmness(sum, fact, day, v, more) + v % 3;
        }
        int tells(Turn turn, int x) {
            turn.begin(60);
            return super.tells(turn, x - turn.number);
        }
    }

    private static final class Told extends Cousin {
        int firmness(int sum, int fact, int day, int v, int more) {
            return super.firmness(sum, fact, day, v, more) + more;
        }
        int nods(Turn turn, int x) {
            turn.begin(70);
            return super.nods(turn, x) + super.dines(turn, 2);
        }
        int dines(Turn turn, int x) {
            turn.begin(71);
            return super.dines(turn, x) ^ turn.v;
        }
    }

    /** Who acts, and which bodies have begun. */
    private static final class Turn {
        static final int KEPT_LIMIT = 20;

        int number = 0;
        int v = 0;
        int ran = 0;
        final int[] bodies = new int[KEPT_LIMIT];

        void clear() {
            ran = 0;
        }

        void begin(int body) {
            if (ran < KEPT_LIMIT) {
                bodies[ran] = body;
            }
            ran++;
        }

        int keptCount() {
            return Math.min(ran, KEPT_LIMIT);
        }
    }

    // ---- what an image holds

    private static final class Household {
        static final int SEEN_MASTER = 0, SEEN_FACT = 1, SEEN_NIGHTS = 2, SEEN_KEPT = 3, SEEN_COLUMNS = 4;
        static final int PLAN_WHAT = 0, PLAN_WITH = 1, PLAN_COLUMNS = 2;
        static final int BOOK_MASTER = 0, BOOK_FACTS = 1, BOOK_COLUMNS = 2;

        int masterCount = 0;
        final int[] kinds = new int[MASTER_LIMIT];
        final int[] vs = new int[MASTER_LIMIT];
        final int[] minds = new int[MASTER_LIMIT];
        final int[] rows = new int[MASTER_LIMIT * ROW_LENGTH];
        int deedCount = 0;
        final int[] deedMasters = new int[DEED_LIMIT];
        final int[] deedFacts = new int[DEED_LIMIT];
        final int[] deedDues = new int[DEED_LIMIT];
        int footmanCount = 0;
        final int[] holds = new int[FOOTMAN_LIMIT];
        int outs = 0;
        int day = 0;
        int held = NONE;
        int seenCount = 0;
        final int[][] seenRows = new int[SEEN_LIMIT][SEEN_COLUMNS];
        int planCount = 0;
        final int[][] planRows = new int[PLAN_LIMIT][PLAN_COLUMNS];
        int bookCount = 0;
        final int[][] bookRows = new int[BOOK_LIMIT][BOOK_COLUMNS];

        boolean hasMaster(int p) {
            return p >= 0 && p < masterCount;
        }

        boolean hasFootman(int f) {
            return f >= 0 && f < footmanCount;
        }

        boolean isOut(int f) {
            return (outs >> f & 1) != 0;
        }

        int addMaster(int kind, int v) {
            if (masterCount >= MASTER_LIMIT) {
                return FULL;
            }
            kinds[masterCount] = kind;
            vs[masterCount] = v;
            minds[masterCount] = 0;
            for (int part = 0; part < ROW_LENGTH; part++) {
                rows[masterCount * ROW_LENGTH + part] = 0;
            }
            masterCount++;
            return masterCount - 1;
        }

        int addDeed(int master, int facts, int due) {
            if (deedCount >= DEED_LIMIT) {
                return FULL;
            }
            deedMasters[deedCount] = master;
            deedFacts[deedCount] = facts;
            deedDues[deedCount] = due;
            deedCount++;
            return deedCount - 1;
        }

        int addFootman(int facts) {
            if (footmanCount >= FOOTMAN_LIMIT) {
                return FULL;
            }
            holds[footmanCount] = facts;
            footmanCount++;
            return footmanCount - 1;
        }

        int addSeen(int master, int fact, int nights, boolean kept) {
            if (seenCount >= SEEN_LIMIT) {
                return FULL;
            }
            int[] row = seenRows[seenCount];
            row[SEEN_MASTER] = master;
            row[SEEN_FACT] = fact;
            row[SEEN_NIGHTS] = nights;
            row[SEEN_KEPT] = kept ? 1 : 0;
            seenCount++;
            return seenCount;
        }

        int addPlan(int what, int with) {
            if (planCount >= PLAN_LIMIT) {
                return FULL;
            }
            planRows[planCount][PLAN_WHAT] = what;
            planRows[planCount][PLAN_WITH] = with;
            planCount++;
            return planCount;
        }

        int addBook(int master, int facts) {
            if (bookCount >= BOOK_LIMIT) {
                return FULL;
            }
            bookRows[bookCount][BOOK_MASTER] = master;
            bookRows[bookCount][BOOK_FACTS] = facts;
            bookCount++;
            return bookCount;
        }

        int doneWith(int[] knowing) {
            int done = 0;
            for (int i = 0; i < deedCount; i++) {
                int master = deedMasters[i];
                if (hasMaster(master) && (deedFacts[i] & ~knowing[master]) == 0) {
                    done |= 1 << i;
                }
            }
            return done;
        }

        int knownIn(int[] knowing) {
            int known = 0;
            for (int p = 0; p < masterCount; p++) {
                known += Integer.bitCount(knowing[p]);
            }
            return known;
        }

        int takenBy(int master, int due) {
            int facts = 0;
            for (int i = 0; i < deedCount; i++) {
                if (deedMasters[i] == master && (due == ANY_DUE || deedDues[i] == due)) {
                    facts |= deedFacts[i];
                }
            }
            return facts;
        }

        int heldWithout(int footman) {
            int facts = 0;
            for (int f = 0; f < footmanCount; f++) {
                if (f != footman && !isOut(f)) {
                    facts |= holds[f];
                }
            }
            return facts;
        }

        int heldByCrew(int crew) {
            int facts = 0;
            for (int f = 0; f < footmanCount; f++) {
                if ((crew >> f & 1) != 0) {
                    facts |= holds[f];
                }
            }
            return facts;
        }

        int smallestCrew() {
            int all = heldWithout(NOBODY);
            // Everyone who is in holds it all, so the search has an answer to begin with.
            int best = (1 << footmanCount) - 1 & ~outs;
            for (int crew = best; crew >= 0; crew--) {
                boolean allIn = (crew & outs) == 0;
                boolean noMore = Integer.bitCount(crew) <= Integer.bitCount(best);
                if (allIn && noMore && heldByCrew(crew) == all) {
                    best = crew;
                }
            }
            return best;
        }

        int lostWith(int footman) {
            return isOut(footman) ? 0 : holds[footman] & ~heldWithout(footman);
        }

        boolean isSafe() {
            for (int f = 0; f < footmanCount; f++) {
                if (lostWith(f) != 0) {
                    return false;
                }
            }
            return true;
        }

        void copyFrom(Household other) {
            masterCount = other.masterCount;
            copyRow(other.kinds, kinds);
            copyRow(other.vs, vs);
            copyRow(other.minds, minds);
            copyRow(other.rows, rows);
            deedCount = other.deedCount;
            copyRow(other.deedMasters, deedMasters);
            copyRow(other.deedFacts, deedFacts);
            copyRow(other.deedDues, deedDues);
            footmanCount = other.footmanCount;
            copyRow(other.holds, holds);
            outs = other.outs;
            day = other.day;
            held = other.held;
            seenCount = other.seenCount;
            copyTable(other.seenRows, seenRows);
            planCount = other.planCount;
            copyTable(other.planRows, planRows);
            bookCount = other.bookCount;
            copyTable(other.bookRows, bookRows);
        }

        private static void copyRow(int[] from, int[] to) {
            System.arraycopy(from, 0, to, 0, Math.min(from.length, to.length));
        }

        private static void copyTable(int[][] from, int[][] to) {
            for (int i = 0; i < from.length && i < to.length; i++) {
                copyRow(from[i], to[i]);
            }
        }
    }

    // ---- houses

    /**
     * A house as steps over sets of facts: a test puts the facts for which it holds,
     * so that one run weighs all facts of a master on a day.
     */
    private static final class House {
        static final int FAULTLESS = -1;

        private static final int END = -1;
        private static final int USUAL_HOURS = 6, CLAUSE_LIMIT = 10, DEPTH_LIMIT = 4;
        // Two wait for their other side at each depth 0 .. 4, and one is the newest.
        private static final int STACK_LIMIT = 2 * (DEPTH_LIMIT + 1) + 1;
        private static final String LETTERS = "pkvfds", SIGNS = "<=>";
        private static final int FACT_LETTER = 3;
        // A test's step is three times its letter's place and its sign's; others come behind.
        private static final int PUT = 18, AND = 19, OR = 20, NOT = 21, KEEP = 22, LOSE = 23;
        private static final int STEP = 256;

        int hours = USUAL_HOURS;
        private final int[] steps = new int[TEXT_LIMIT];
        private int stepCount = 0;
        private final int[] stack = new int[STACK_LIMIT];
        private int top = 0;
        // Looked at only while a text is learned; the bare house never learns one.
        private byte[] bytes = new byte[0];
        private int length = 0;
        private int place = 0;
        private int number = 0;

        /** Becomes the house of the text: its fault, or FAULTLESS. */
        int learn(byte[] from, int count) {
            bytes = from;
            length = Math.min(count, from.length);
            place = 0;
            stepCount = 0;
            hours = USUAL_HOURS;
            boolean fits = takeClause();
            for (int n = 1; n < CLAUSE_LIMIT && fits && sign() == ';'; n++) {
                place++;
                fits = takeClause();
            }
            if (!fits || place != length) {
                return place;
            }
            settleFactTests();
            return FAULTLESS;
        }

        /** What a test says of a fact's number is the same on every day, so it is put as a set once. */
        private void settleFactTests() {
            for (int i = 0; i < stepCount; i++) {
                int step = steps[i] / STEP;
                if (step < PUT && step / 3 == FACT_LETTER) {
                    steps[i] = PUT * STEP + factsThat(step % 3, steps[i] % STEP);
                }
            }
        }

        private int sign() {
            return place >= 0 && place < length ? bytes[place] : END;
        }

        /** Where the sign stands among these; below 0, if it doesn't, or if the text has ended. */
        private static int placeIn(String signs, int sign) {
            return sign == END ? END : signs.indexOf((char) sign);
        }

        private boolean takeWord(String word) {
            for (int i = 0; i < word.length(); i++) {
                if (sign() != word.charAt(i)) {
                    return false;
                }
                place++;
            }
            return true;
        }

        private boolean takeClause() {
            if (sign() == 'h') {
                boolean fits = takeWord("hours ") && takeNumber();
                hours = fits ? number : hours;
                return fits;
            }
            boolean keeps = sign() == 'k';
            if (!takeWord(keeps ? "keep " : "lose ") || !takeNumber()) {
                return false;
            }
            int weight = number;
            return takeWord(" ") && takeEither(0) && addStep(keeps ? KEEP : LOSE, weight);
        }

        private boolean takeEither(int depth) {
            boolean fits = takeBoth(depth);
            for (int n = 0; n < TEXT_LIMIT && fits && sign() == '|'; n++) {
                place++;
                fits = takeBoth(depth) && addStep(OR, 0);
            }
            return fits;
        }

        private boolean takeBoth(int depth) {
            boolean fits = takeOne(depth);
            for (int n = 0; n < TEXT_LIMIT && fits && sign() == '&'; n++) {
                place++;
                fits = takeOne(depth) && addStep(AND, 0);
            }
            return fits;
        }

        private boolean takeOne(int depth) {
            int first = sign();
            if (first != '!' && first != '(') {
                return takeTest();
            }
            if (depth >= DEPTH_LIMIT) {
                return false;
            }
            place++;
            if (first == '!') {
                return takeOne(depth + 1) && addStep(NOT, 0);
            }
            return takeEither(depth + 1) && takeWord(")");
        }

        private boolean takeTest() {
            int letter = placeIn(LETTERS, sign());
            if (letter < 0) {
                return false;
            }
            place++;
            int comparison = placeIn(SIGNS, sign());
            if (comparison < 0) {
                return false;
            }
            place++;
            return takeNumber() && addStep(letter * 3 + comparison, number);
        }

        private boolean takeNumber() {
            int from = place;
            number = 0;
            for (int n = 0; n < 2 && place < length && bytes[place] >= '0' && bytes[place] <= '9'; n++) {
                number = number * 10 + bytes[place] - '0';
                place++;
            }
            return place > from;
        }

        private boolean addStep(int step, int with) {
            if (stepCount >= steps.length) {
                return false;
            }
            steps[stepCount] = step * STEP + with;
            stepCount++;
            return true;
        }

        private static boolean compares(int value, int sign, int with) {
            switch (sign) {
                case 0: return value < with;
                case 1: return value == with;
                default: return value > with;
            }
        }

        private static int factsThat(int sign, int with) {
            int facts = 0;
            for (int fact = 0; fact < FACTS; fact++) {
                if (compares(fact, sign, with)) {
                    facts |= 1 << fact;
                }
            }
            return facts;
        }

        /** The sums of all facts of a master on a day come into the row. */
        void weigh(int p, int kind, int v, int day, int[] into) {
            Arrays.fill(into, 1);
            top = 0;
            for (int i = 0; i < stepCount; i++) {
                int step = steps[i] / STEP;
                int with = steps[i] % STEP;
                if (step < PUT) {
                    int value = valueOf(step / 3, p, kind, v, day);
                    push(compares(value, step % 3, with) ? ALL_FACTS : 0);
                } else if (step == KEEP) {
                    addWeight(pop(), with, into);
                } else if (step == LOSE) {
                    addWeight(pop(), -with, into);
                } else {
                    join(step, with);
                }
            }
        }

        private static int valueOf(int letter, int p, int kind, int v, int day) {
            switch (letter) {
                case 0: return p;
                case 1: return kind;
                case 2: return v;
                case 4: return day % 10;
                default: return day % 7;
            }
        }

        private void join(int step, int with) {
            switch (step) {
                case AND:
                    push(pop() & pop());
                    break;
                case OR:
                    push(pop() | pop());
                    break;
                case NOT:
                    push(ALL_FACTS & ~pop());
                    break;
                default:
                    push(with);
                    break;
            }
        }

        private void push(int facts) {
            if (top >= 0 && top < stack.length) {
                stack[top] = facts;
                top++;
            }
        }

        private int pop() {
            if (top <= 0 || top > stack.length) {
                return 0;
            }
            top--;
            return stack[top];
        }

        private static void addWeight(int facts, int weight, int[] into) {
            for (int fact = 0; fact < into.length && fact < FACTS; fact++) {
                if ((facts >> fact & 1) != 0) {
                    into[fact] += weight;
                }
            }
        }
    }

    // ---- tapes

    /** Items of all sorts stand as longs that have been cut to their sort. */
    private static final class Tape {
        static final int EMPTY = -1, BYTES = 0, SHORTS = 1, INTS = 2, BOOLEANS = 4;

        int sort = EMPTY;
        private int size = 0;
        final long[] items = new long[ITEM_LIMIT];

        void become(int newSort, int newSize) {
            sort = newSort;
            size = newSize;
            Arrays.fill(items, 0L);
        }

        boolean holdsRow() {
            return sort != EMPTY;
        }

        boolean hasPlace(long i) {
            return holdsRow() && i >= 0 && i < size;
        }

        boolean hasStretch(int i, int n) {
            return i >= 0 && n >= 0 && (long) i + n <= size;
        }

        long narrowed(long v) {
            switch (sort) {
                case BYTES: return (byte) v;
                case SHORTS: return (short) v;
                case INTS: return (int) v;
                case BOOLEANS: return v != 0 ? 1 : 0;
                default: return v;
            }
        }
    }
}
