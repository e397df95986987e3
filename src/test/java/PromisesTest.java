/** For each promise of the document: ordinary inputs, the edges it names, and wrong inputs, by hand. */
public final class PromisesTest {
    private static final long NO = Long.MIN_VALUE;
    private static int wrong = 0;
    private static int looked = 0;

    private static void due(String call, long got, long want) {
        looked++;
        if (got != want) {
            wrong++;
            System.out.println(call + " answered " + got + ", due is " + want);
        }
    }

    private static int build(ButlerRemembers x, String text) {
        for (int i = 0; i < text.length(); i++) {
            x.feed(text.charAt(i));
        }
        return x.house();
    }

    private static void fault(String text, int place) {
        ButlerRemembers x = new ButlerRemembers();
        due("house '" + text + "'", build(x, text), -10 - place);
        due("text is empty behind '" + text + "'", x.count(7), 0);
        due("no house by '" + text + "'", x.count(3), 0);
    }

    private static void fine(String text) {
        due("house '" + text + "'", build(new ButlerRemembers(), text), 0);
    }

    /** The grip of master 0 (kind 0, v 3) on a fact of day 0, less the 1 that it begins with. */
    private static int weight(String text, int fact) {
        ButlerRemembers x = new ButlerRemembers();
        x.master(0, 3);
        due("house '" + text + "'", build(x, text), 0);
        return x.grip(0, fact, 0) - 1;
    }

    public static void main(String[] args) {
        newObject();
        masters();
        grips();
        kindsOfGrip();
        minds();
        deeds();
        footmen();
        rows();
        texts();
        faults();
        expressions();
        tests();
        houses();
        toldTellings();
        crews();
        nights();
        on();
        seen();
        knew();
        odds();
        means();
        plans();
        books();
        judges();
        images();
        acts();
        taken();
        counts();
        tapes();
        shifts();
        System.out.println(wrong == 0 ? looked + " answers are as due" : wrong + " answers are not as due");
        if (wrong != 0) {
            System.exit(1);
        }
    }

    // Promise 1
    private static void newObject() {
        ButlerRemembers x = new ButlerRemembers();
        for (int what = 0; what <= 8; what++) {
            due("new: count(" + what + ")", x.count(what), 0);
        }
        due("new: day", x.told(0), 0);
        due("new: hours", x.told(1), 6);
        due("new: undo", x.undo(), -3);
        for (int tape = 0; tape < 6; tape++) {
            due("new: read", x.read(tape, 0), NO);
            due("new: item", x.item(tape, 0, 1), -11);
        }
    }

    // Promises 2 and 3
    private static void masters() {
        ButlerRemembers x = new ButlerRemembers();
        due("master(-1, 0)", x.master(-1, 0), -1);
        due("master(7, -1)", x.master(7, -1), -1);
        due("master(0, -1)", x.master(0, -1), -2);
        due("master(6, 10)", x.master(6, 10), -2);
        due("of(0, 0) of none", x.of(0, 0), -1);
        for (int p = 0; p < 6; p++) {
            due("master", x.master(p + 1, 9 - p), p);
        }
        due("master(0, 0)", x.master(0, 0), -4);
        due("master(0, 10) when full", x.master(0, 10), -2);
        for (int p = 0; p < 6; p++) {
            due("kind", x.of(p, 0), p + 1);
            due("v", x.of(p, 1), 9 - p);
            due("mind", x.of(p, 2), 0);
            due("blank", x.of(p, 3), 0);
        }
        int[] none = {-1, 4, 5, 9, 18, 19, Integer.MIN_VALUE, Integer.MAX_VALUE};
        for (int what : none) {
            due("of(0, " + what + ")", x.of(0, what), -1);
        }
        due("of(-1, 0)", x.of(-1, 0), -1);
        due("of(6, 0)", x.of(6, 0), -1);
        keptAndBlank();
    }

    private static void keptAndBlank() {
        ButlerRemembers x = new ButlerRemembers();
        x.master(0, 0);
        build(x, "lose 1 d=3&f<4;lose 2 f=7;lose 1 s=6&f=5");
        due("kept 0", x.of(0, 10), 3);
        due("kept 3", x.of(0, 13), 3);
        due("kept 4", x.of(0, 14), 60);
        due("kept 5", x.of(0, 15), 6);
        due("kept 7", x.of(0, 17), 0);
        x.mind(0, 0x81);
        due("blank 0x81", x.of(0, 3), 4);
        x.mind(0, 0x80);
        due("blank 0x80", x.of(0, 3), 1);
        x.mind(0, 0x20);
        due("blank 0x20", x.of(0, 3), 7);
        x.mind(0, 0x10);
        due("blank 0x10", x.of(0, 3), -5);
        x.pass(2);
        due("kept 0 on day 2", x.of(0, 10), 1);
        due("kept 5 on day 2", x.of(0, 15), 4);
        // Lost in the 60th night from day 0, and in the 61st: days 59 and 60 are d=9&s=3 and d=0&s=4.
        lastNights("lose 1 d=9&s=3", 59, 60);
        lastNights("lose 1 d=0&s=4", 60, -5);
    }

    private static void lastNights(String text, int kept, int blank) {
        ButlerRemembers x = new ButlerRemembers();
        x.master(0, 0);
        x.mind(0, 255);
        build(x, text);
        due(text + ": kept", x.of(0, 10), kept);
        due(text + ": blank", x.of(0, 3), blank);
    }

    // Promise 4
    private static void grips() {
        ButlerRemembers x = new ButlerRemembers();
        due("grip(0, 0, 0) of none", x.grip(0, 0, 0), -10001);
        x.master(0, 0);
        build(x, "lose 99 f=0;lose 99 f=0;keep 7 d=5");
        due("grip 0", x.grip(0, 0, 0), -197);
        due("grip 0 in 5", x.grip(0, 0, 5), -190);
        due("grip 1 in 5", x.grip(0, 1, 5), 8);
        due("grip 1 in 60", x.grip(0, 1, 60), 1);
        x.pass(5);
        due("grip 1 on day 5", x.grip(0, 1, 0), 8);
        due("grip(0, -1, 0)", x.grip(0, -1, 0), -10001);
        due("grip(0, 8, -1)", x.grip(0, 8, -1), -10001);
        due("grip(-1, 0, 61)", x.grip(-1, 0, 61), -10001);
        due("grip(1, 0, 0)", x.grip(1, 0, 0), -10001);
        due("grip(0, 0, -1)", x.grip(0, 0, -1), -10002);
        due("grip(0, 0, 61)", x.grip(0, 0, 61), -10002);
    }

    private static int gripOf(int kind, int v, String text, int fact, int day) {
        ButlerRemembers x = new ButlerRemembers();
        x.master(kind, v);
        build(x, text);
        return x.grip(0, fact, day);
    }

    private static void kindsOfGrip() {
        String up = "keep 4 f<9";
        String down = "lose 4 f<9";
        due("master up", gripOf(0, 9, up, 0, 0), 5);
        due("heir below v", gripOf(1, 3, up, 2, 0), 7);
        due("heir at v", gripOf(1, 3, up, 3, 0), 5);
        due("heir down", gripOf(1, 3, down, 2, 1), -1);
        due("duchess even", gripOf(2, 3, down, 2, 2), -3);
        due("duchess odd", gripOf(2, 3, up, 2, 3), 0);
        due("cousin up", gripOf(3, 3, up, 2, 0), 2);
        due("cousin down, cut toward 0", gripOf(3, 3, down, 2, 0), -1);
        due("bishop of its fact", gripOf(4, 9, up, 1, 0), 0);
        due("bishop of another", gripOf(4, 9, up, 0, 0), 7);
        due("bishop beyond v", gripOf(4, 2, up, 3, 0), 5);
        due("daughter even", gripOf(5, 5, up, 3, 0), 7);
        due("daughter odd", gripOf(5, 5, up, 3, 1), 2);
        due("daughter odd, v 3", gripOf(5, 3, up, 3, 1), 0);
        due("told without a row", gripOf(6, 3, up, 3, 0), 2);
        ButlerRemembers x = new ButlerRemembers();
        x.master(6, 0);
        x.row(0, 2, 9);
        build(x, down);
        due("told down on day 2", x.grip(0, 0, 2), 8);
        due("told down on day 3", x.grip(0, 0, 3), -1);
        due("told down on day 58", x.grip(0, 0, 58), 8);
    }

    // Promises 5 and 6
    private static void minds() {
        ButlerRemembers x = new ButlerRemembers();
        due("tell none", x.tell(0, 0), -1);
        due("mind none", x.mind(0, 300), -1);
        x.master(0, 0);
        x.master(0, 0);
        due("tell(0, 0)", x.tell(0, 0), 1);
        due("tell(0, 7)", x.tell(0, 7), 129);
        due("tell(0, 7) again", x.tell(0, 7), 129);
        due("tell(0, -1)", x.tell(0, -1), -1);
        due("tell(0, 8)", x.tell(0, 8), -1);
        due("tell(-1, 0)", x.tell(-1, 0), -1);
        due("tell(2, 0)", x.tell(2, 0), -1);
        due("other mind", x.of(1, 2), 0);
        due("mind(0, 255)", x.mind(0, 255), 129);
        due("mind(0, 256)", x.mind(0, 256), -2);
        due("mind(0, -1)", x.mind(0, -1), -2);
        due("mind(2, 0)", x.mind(2, 0), -1);
        due("mind(0, 0)", x.mind(0, 0), 255);
        due("of(0, 2)", x.of(0, 2), 0);
    }

    // Promise 7
    private static void deeds() {
        ButlerRemembers x = new ButlerRemembers();
        due("deed of none", x.deed(0, 256, 21), -1);
        x.master(0, 0);
        due("deed(-1, 0, 0)", x.deed(-1, 0, 0), -1);
        due("deed(0, 256, 0)", x.deed(0, 256, 0), -2);
        due("deed(0, -1, 0)", x.deed(0, -1, 0), -2);
        due("deed(0, 0, 21)", x.deed(0, 0, 21), -2);
        due("deed(0, 0, -1)", x.deed(0, 0, -1), -2);
        for (int i = 0; i < 8; i++) {
            due("deed", x.deed(0, 1 << i, i == 0 ? 20 : 0), i);
        }
        due("deed beyond 8", x.deed(0, 0, 0), -4);
        due("bad deed beyond 8", x.deed(0, 0, 21), -2);
        x.mind(0, 0x92);
        due("done", x.told(2), 0x92);
        due("count", x.count(1), 8);
    }

    // Promises 8, 9 and 10
    private static void footmen() {
        ButlerRemembers x = new ButlerRemembers();
        due("footman(-1)", x.footman(-1), -2);
        due("footman(256)", x.footman(256), -2);
        due("out(0) of none", x.out(0, true), -1);
        due("lost(0) of none", x.lost(0), -1);
        int[] holds = {7, 12, 48, 0, 255};
        for (int i = 0; i < 5; i++) {
            due("footman", x.footman(holds[i]), i);
        }
        due("footman beyond 5", x.footman(0), -4);
        due("bad footman beyond 5", x.footman(-1), -2);
        due("lost(4)", x.lost(4), 192);
        due("out(4, true)", x.out(4, true), 0);
        due("lost(4) out", x.lost(4), 0);
        due("lost(0)", x.lost(0), 3);
        due("lost(1)", x.lost(1), 8);
        due("lost(2)", x.lost(2), 48);
        due("lost(3)", x.lost(3), 0);
        due("out(0, true)", x.out(0, true), 0);
        due("outs", x.told(10), 17);
        due("lost(1) without 0", x.lost(1), 12);
        due("out(4, false)", x.out(4, false), 1);
        due("out(4, false) again", x.out(4, false), 0);
        due("outs", x.told(10), 1);
        due("out(-1, true)", x.out(-1, true), -1);
        due("out(5, true)", x.out(5, true), -1);
        due("lost(-1)", x.lost(-1), -1);
        due("lost(5)", x.lost(5), -1);
    }

    // Promise 11
    private static void rows() {
        ButlerRemembers x = new ButlerRemembers();
        due("row of none", x.row(0, 0, 0), -1);
        x.master(6, 0);
        x.master(3, 0);
        due("row(0, 3, 9)", x.row(0, 3, 9), 0);
        due("row(0, 3, 0)", x.row(0, 3, 0), 9);
        due("row(0, 0, 5)", x.row(0, 0, 5), 0);
        due("row(0, 0, 10)", x.row(0, 0, 10), -2);
        due("row(0, 0, -1)", x.row(0, 0, -1), -2);
        due("row(0, 4, 10)", x.row(0, 4, 10), -1);
        due("row(0, -1, 0)", x.row(0, -1, 0), -1);
        due("row(2, 0, 0)", x.row(2, 0, 0), -1);
        due("row(1, 0, 10)", x.row(1, 0, 10), -2);
        due("row(1, 0, 9)", x.row(1, 0, 9), -3);
        due("row stays", x.row(0, 0, 5), 5);
    }

    // Promise 12
    private static void texts() {
        ButlerRemembers x = new ButlerRemembers();
        due("feed(-1)", x.feed(-1), -2);
        due("feed(128)", x.feed(128), -2);
        due("feed(0)", x.feed(0), 1);
        due("feed(127)", x.feed(127), 2);
        for (int i = 3; i <= 100; i++) {
            due("feed", x.feed('k'), i);
        }
        due("feed beyond 100", x.feed('k'), -4);
        due("bad feed beyond 100", x.feed(128), -2);
        due("count(7)", x.count(7), 100);
        due("house", x.house(), -10);
        due("count(7) then", x.count(7), 0);
    }

    // Promise 13: the fault
    private static void faults() {
        fault("", 0);
        fault("Keep 1 p=1", 0);
        fault(" keep 1 p=1", 0);
        fault("k", 1);
        fault("kept 1 p=1", 2);
        fault("keep", 4);
        fault("keep1 p=1", 4);
        fault("keep  1 p=1", 5);
        fault("keep x p=1", 5);
        fault("keep 1", 6);
        fault("keep 1p=1", 6);
        fault("keep 123 p=1", 7);
        fault("keep 1 ", 7);
        fault("keep 1  p=1", 7);
        fault("keep 1 x=1", 7);
        fault("keep 1 p", 8);
        fault("keep 1 p!1", 8);
        fault("keep 1 p=", 9);
        fault("keep 1 p==1", 9);
        fault("keep 1 p=-1", 9);
        fault("keep 1 p=123", 11);
        fault("keep 1 p=1 ", 10);
        fault("keep 1 p=1)", 10);
        fault("keep 1 p=1&", 11);
        fault("keep 1 p=1&&p=1", 11);
        fault("keep 1 p=1|", 11);
        fault("keep 1 p=1&|p=1", 11);
        fault("keep 1 (p=1", 11);
        fault("keep 1 (p=1;", 11);
        fault("keep 1 ()", 8);
        fault("keep 1 !", 8);
        fault("keep 1 p=1!p=1", 10);
        fault("keep 1 p=1;", 11);
        fault("keep 1 p=1;;", 11);
        fault(";", 0);
        fault("lost 1 p=1", 3);
        fault("lose 1 p=1; keep 1 p=1", 11);
        fault("hours", 5);
        fault("hours ", 6);
        fault("hours x", 6);
        fault("hours 123", 8);
        fault("hours 1 ", 7);
        fault("hours 1 p=1", 7);
        fault("keep 1 !!!!!p=1", 11);
        fault("keep 1 (!(!(p=1))))", 11);
        fault("keep 1 !(!(!p=1))", 11);
        fault("keep 1 p=1|((((!p=1))))", 15);
        fine("keep 1 !!!!p=1");
        fine("keep 1 ((((p=1))))&((((p=1))))|!(!(p=1))&!!!!v>3");
        fine("hours 00");
        fine("keep 00 p<00;lose 99 s>99;hours 7");
        fine("hours 1;hours 2;hours 3;hours 4;hours 5;hours 6;hours 7;hours 8;hours 9;hours 10");
        fault("hours 1;hours 2;hours 3;hours 4;hours 5;hours 6;hours 7;hours 8;hours 9;hours 10;", 80);
        String hundred = "keep 1 p=1&p=1&p=1&p=1&p=1&p=1&p=1&p=1&p=1&p=1&p=1&p=1&p=1&p=1&p=1&p=1&p=1&p=1&p=1&p=1&p=1&p=1&p=1&p";
        fault(hundred.substring(0, 100), 100);
        fine(hundred.substring(0, 98));
        fault(hundred.substring(0, 98) + "\0", 98);
    }

    // Promise 13: what the clauses weigh
    private static void expressions() {
        due("& above |", weight("keep 1 f=1|f=2&p=9", 1), 1);
        due("& above |, the other side", weight("keep 1 p=9&f=2|f=1", 1), 1);
        due("& above |, both", weight("keep 1 p=9&f=2|f=1", 2), 0);
        due("brackets", weight("keep 1 (f=1|f=2)&p=9", 1), 0);
        due("! binds one", weight("keep 1 !f=1&f=1", 1), 0);
        due("! binds one of |", weight("keep 1 !f=2|f=2", 2), 1);
        due("! of brackets", weight("keep 1 !(f=1|f=2)", 2), 0);
        due("! of brackets, outside", weight("keep 1 !(f=1|f=2)", 3), 1);
        due("!!", weight("keep 1 !!f=1", 1), 1);
        due("three |", weight("keep 1 f=1|f=2|f=3", 3), 1);
        due("three &", weight("keep 1 f>1&f<5&!f=3", 3), 0);
        due("three &, inside", weight("keep 1 f>1&f<5&!f=3", 4), 1);
        due("mixed", weight("keep 1 f=7|f>1&(f<5|f=6)&!f=3|f=0", 6), 1);
        due("mixed 3", weight("keep 1 f=7|f>1&(f<5|f=6)&!f=3|f=0", 3), 0);
        due("mixed 0", weight("keep 1 f=7|f>1&(f<5|f=6)&!f=3|f=0", 0), 1);
        due("together", weight("keep 99 f=1;keep 3 p=0;lose 12 k=0;lose 1 p=1;hours 3", 1), 90);
        due("deep", weight("keep 5 p=9|p=0&(p=9|p=0&(p=9|p=0&(p=9|p=0&(p=9|p=0&f=2))))", 2), 5);
        due("deep, other", weight("keep 5 p=9|p=0&(p=9|p=0&(p=9|p=0&(p=9|p=0&(p=9|p=0&f=2))))", 3), 0);
    }

    // Promise 13: each letter and sign
    private static void tests() {
        due("f<3 2", weight("keep 1 f<3", 2), 1);
        due("f<3 3", weight("keep 1 f<3", 3), 0);
        due("f>3 3", weight("keep 1 f>3", 3), 0);
        due("f>3 4", weight("keep 1 f>3", 4), 1);
        due("f=07 7", weight("keep 1 f=07", 7), 1);
        due("f<8 7", weight("keep 1 f<8", 7), 1);
        due("f>7 7", weight("keep 1 f>7", 7), 0);
        due("f=15 7", weight("keep 1 f=15", 7), 0);
        due("v=3", weight("keep 1 v=3", 0), 1);
        due("v<3", weight("keep 1 v<3", 0), 0);
        due("v>2", weight("keep 1 v>2", 0), 1);
        due("k<1", weight("keep 1 k<1", 0), 1);
        ButlerRemembers x = new ButlerRemembers();
        x.master(0, 0);
        x.master(3, 4);
        build(x, "keep 2 p=1;keep 20 k=3;lose 40 v=4&p=1");
        due("p, k and v of another", x.grip(1, 0, 0), -8);
        due("p, k and v of the first", x.grip(0, 0, 0), 1);
        build(x, "keep 10 d=7;keep 20 s=6");
        x.pass(7);
        due("day 7", x.grip(0, 0, 0), 11);
        due("day 13", x.grip(0, 0, 6), 21);
        due("day 27", x.grip(0, 0, 20), 31);
        due("day 28", x.grip(0, 0, 21), 1);
    }

    // Promise 13: how many
    private static void houses() {
        ButlerRemembers x = new ButlerRemembers();
        for (int i = 0; i < 6; i++) {
            due("house", build(x, "hours 2;hours 1" + i), i);
            due("newest holds", x.told(1), 10 + i);
            due("faulty house", build(x, "hours 3x"), i == 5 ? -4 : -17);
            due("the one that held holds", x.told(1), 10 + i);
        }
        due("text stays when full", x.count(7), 8);
        due("house when full", x.house(), -4);
        due("houses", x.count(3), 6);
        ButlerRemembers y = new ButlerRemembers();
        build(y, "keep 1 p=0");
        due("hours without", y.told(1), 6);
        build(y, "hours 0;keep 1 p=0");
        due("hours 0", y.told(1), 0);
        build(y, "keep 1 p=0");
        due("hours without again", y.told(1), 6);
    }

    // Promise 14: 0 .. 6
    private static void toldTellings() {
        ButlerRemembers x = new ButlerRemembers();
        due("told(-1)", x.told(-1), -1);
        due("told(11)", x.told(11), -1);
        x.master(0, 0);
        x.master(0, 0);
        x.deed(0, 7, 0);
        x.deed(0, 14, 3);
        x.deed(0, 14, 3);
        x.deed(1, 1, 20);
        x.deed(1, 0, 0);
        due("done", x.told(2), 16);
        due("tellings", x.told(3), 5);
        due("each on its day", x.told(4), 5);
        due("busy", x.told(5), 3);
        due("not more than hours", x.told(6), 0);
        x.tell(0, 1);
        due("tellings, one known", x.told(3), 4);
        due("each, one known", x.told(4), 4);
        due("busy, one known", x.told(5), 2);
        // Fact 1 is lost in the night behind day 2, fact 2 behind day 1.
        build(x, "lose 1 d=2&f=1;lose 1 d=1&f=2;hours 2");
        due("each, some lost", x.told(4), 6);
        due("busy, some lost", x.told(5), 3);
        due("more than hours", x.told(6), 1);
        due("minds stay", x.of(0, 2), 2);
        build(x, "lose 1 d=2&f=1;lose 1 d=1&f=2;hours 3");
        due("just hours", x.told(6), 0);
        x.pass(1);
        // Due is from now on, whenever that is asked.
        due("each, a day later", x.told(4), 6);
        x.mind(1, 1);
        due("known till then", x.told(4), 5);
        build(x, "lose 1 p=1&d=0");
        due("lost till then", x.told(4), 4);
        due("day", x.told(0), 1);
        knownOnTheDay();
    }

    private static void knownOnTheDay() {
        ButlerRemembers x = new ButlerRemembers();
        x.master(2, 0);
        x.mind(0, 1);
        x.deed(0, 1, 1);
        due("known behind one night", x.told(4), 0);
        x.deed(0, 1, 2);
        due("lost behind two", x.told(4), 1);
        x.deed(0, 1, 3);
        due("told the day before, and kept", x.told(4), 1);
        x.deed(0, 1, 20);
        due("told anew far on", x.told(4), 2);
        due("busy", x.told(5), 1);
        due("done now", x.told(2), 15);
        due("tellings now", x.told(3), 0);
    }

    // Promise 14: 7 .. 10
    private static void crews() {
        ButlerRemembers x = new ButlerRemembers();
        due("crew of none", x.told(8), 0);
        x.footman(0);
        due("crew of nothing", x.told(8), 0);
        due("safe", x.told(9), 1);
        x.footman(3);
        due("unsafe", x.told(9), 0);
        due("crew of one", x.told(8), 2);
        x.footman(12);
        x.footman(6);
        x.footman(9);
        due("all held", x.told(7), 15);
        due("least of two crews", x.told(8), 6);
        due("nothing held is safe with 0", x.lost(0), 0);
        due("safe in twos", x.told(9), 1);
        x.out(1, true);
        due("crew without 1", x.told(8), 24);
        due("unsafe without 1", x.told(9), 0);
        x.out(3, true);
        due("crew without 1 and 3", x.told(8), 20);
        due("all held without 1 and 3", x.told(7), 13);
        due("outs", x.told(10), 10);
        x.out(4, true);
        x.out(2, true);
        due("crew of nobody", x.told(8), 0);
        due("all held of nobody", x.told(7), 0);
        due("safe with nobody", x.told(9), 1);
        ButlerRemembers y = new ButlerRemembers();
        y.footman(1);
        y.footman(2);
        y.footman(4);
        y.footman(7);
        due("one of high number is fewer", y.told(8), 8);
    }

    // Promise 15
    private static void nights() {
        ButlerRemembers x = new ButlerRemembers();
        due("pass(-1)", x.pass(-1), -2);
        due("pass(61)", x.pass(61), -2);
        due("pass(0)", x.pass(0), 0);
        x.master(0, 0);
        x.master(2, 0);
        x.mind(0, 255);
        x.mind(1, 255);
        build(x, "lose 1 f=3&d=1;lose 1 f=4&d=2");
        due("pass(1)", x.pass(1), 1);
        due("mind 0 on day 1", x.of(0, 2), 255);
        due("mind 1 on day 1", x.of(1, 2), 255);
        due("pass(1)", x.pass(1), 2);
        due("mind 0 on day 2", x.of(0, 2), 247);
        due("mind 1 on day 2", x.of(1, 2), 0);
        due("pass(1)", x.pass(1), 3);
        due("mind 0 on day 3", x.of(0, 2), 231);
        for (int i = 0; i < 166; i++) {
            due("pass(60)", x.pass(60), 63 + 60 * i);
        }
        due("pass(37)", x.pass(37), -3);
        due("pass(61) near the end", x.pass(61), -2);
        due("pass(36)", x.pass(36), 9999);
        due("pass(1)", x.pass(1), -3);
        due("pass(0)", x.pass(0), 9999);
        x.mind(0, 255);
        build(x, "lose 1 d=0&f=0;lose 1 s=4&f=1");
        due("beyond 9999", x.on(60, 10), 252);
        due("beyond 9999, kept 0", x.of(0, 10), 1);
        due("beyond 9999, kept 1", x.of(0, 11), (4 - 9999 % 7 + 7) % 7);
    }

    // Promise 16
    private static void on() {
        ButlerRemembers x = new ButlerRemembers();
        due("on(0, 10) of none", x.on(0, 10), -1);
        due("on(61, 10) of none", x.on(61, 10), -1);
        x.master(0, 0);
        x.master(1, 9);
        x.mind(0, 15);
        x.mind(1, 240);
        x.deed(0, 3, 0);
        x.deed(1, 48, 0);
        x.deed(0, 4, 0);
        build(x, "lose 1 d=1&f=0;lose 9 d=3&f=5");
        due("on(0, 0)", x.on(0, 0), 7);
        due("on(0, 1)", x.on(0, 1), 8);
        due("on(2, 0)", x.on(2, 0), 6);
        due("on(2, 1)", x.on(2, 1), 7);
        due("on(4, 0)", x.on(4, 0), 4);
        due("on(60, 1)", x.on(60, 1), 6);
        due("on(1, 10)", x.on(1, 10), 15);
        due("on(2, 10)", x.on(2, 10), 14);
        due("on(60, 11)", x.on(60, 11), 208);
        due("minds stay", x.of(0, 2), 15);
        due("on(0, 12)", x.on(0, 12), -1);
        due("on(0, 2)", x.on(0, 2), -1);
        due("on(0, 9)", x.on(0, 9), -1);
        due("on(61, -1)", x.on(61, -1), -1);
        due("on(0, MIN)", x.on(0, Integer.MIN_VALUE), -1);
        due("on(61, 0)", x.on(61, 0), -2);
        due("on(-1, 10)", x.on(-1, 10), -2);
    }

    // Promises 17, 18 and 19
    private static void seen() {
        ButlerRemembers x = new ButlerRemembers();
        due("see of none", x.see(0, 0, 21, true), -1);
        due("see none", x.see(-1, 99, 99, true), 0);
        due("wrong of none", x.wrong(), -5);
        due("can of none", x.can(0, 0), -1);
        x.master(1, 4);
        x.master(4, 4);
        build(x, "lose 1 f<9");
        due("can 0", x.can(0, 0), 10);
        due("can 1", x.can(0, 1), 0);
        due("can(0, 2)", x.can(0, 2), -1);
        due("can(0, -1)", x.can(0, -1), -1);
        due("can(2, 0)", x.can(2, 0), -1);
        due("see", x.see(0, 2, 0, true), 1);
        due("wrong", x.wrong(), -5);
        due("can, v above 2", x.can(0, 0), 7);
        due("can, least above 2", x.can(0, 1), 3);
        due("see", x.see(0, 6, 20, false), 2);
        due("can, v 3 .. 6", x.can(0, 0), 4);
        due("can of the other", x.can(1, 0), 10);
        due("see", x.see(1, 4, 5, true), 3);
        due("bishop loses its own", x.wrong(), 2);
        due("can of bishop", x.can(1, 0), 5);
        due("can of bishop, least", x.can(1, 1), 5);
        due("see", x.see(0, 0, 0, false), 4);
        due("wrong", x.wrong(), 2);
        due("can none", x.can(0, 0), 0);
        due("can none, least", x.can(0, 1), -5);
        due("see(2, 0, 0, true)", x.see(2, 0, 0, true), -1);
        due("see(0, 8, 21, true)", x.see(0, 8, 21, true), -1);
        due("see(0, -1, 0, true)", x.see(0, -1, 0, true), -1);
        due("see(-2, 0, 0, true)", x.see(-2, 0, 0, true), -1);
        due("see(0, 0, 21, true)", x.see(0, 0, 21, true), -2);
        due("see(0, 0, -1, true)", x.see(0, 0, -1, true), -2);
        due("see", x.see(0, 0, 0, true), 5);
        due("see beyond 5", x.see(0, 0, 0, true), -4);
        due("bad see beyond 5", x.see(0, 0, 21, true), -2);
        due("count", x.count(4), 5);
        due("see none", x.see(-1, 0, 0, true), 0);
        due("count", x.count(4), 0);
        due("wrong of none", x.wrong(), -5);
        seenFromNow();
    }

    private static void seenFromNow() {
        ButlerRemembers x = new ButlerRemembers();
        x.master(2, 5);
        x.see(0, 0, 2, true);
        due("even day", x.wrong(), -5);
        x.pass(1);
        due("the day n nights from when it is asked", x.wrong(), 0);
        due("no v helps a duchess", x.can(0, 1), -5);
        x.pass(1);
        due("even day again", x.wrong(), -5);
        build(x, "lose 1 v<8");
        due("v in the house's tests", x.can(0, 0), 2);
        due("v in the house's tests, least", x.can(0, 1), 8);
        due("v stays", x.of(0, 1), 5);
    }

    // Promise 20
    private static void knew() {
        ButlerRemembers x = new ButlerRemembers();
        due("knew of none", x.knew(0, 256, 0, 0), -1);
        x.master(0, 0);
        build(x, "lose 1 d=0&f=0;lose 1 d=1&f=1;lose 1 d=9&f=2");
        due("knew behind 0", x.knew(0, 255, 0, 0), 1);
        due("knew behind 0, least", x.knew(0, 255, 0, 1), 255);
        due("knew behind 1", x.knew(0, 6, 1, 0), 2);
        due("knew behind 1, least", x.knew(0, 6, 1, 1), 6);
        due("knew behind 1, none", x.knew(0, 7, 1, 0), 0);
        due("knew behind 1, none", x.knew(0, 7, 1, 1), -5);
        due("knew behind 2", x.knew(0, 4, 2, 0), 4);
        due("knew behind 20", x.knew(0, 0, 20, 0), 8);
        due("knew behind 20, least", x.knew(0, 0, 20, 1), 0);
        due("knew behind 20, none", x.knew(0, 4, 20, 1), -5);
        due("knew(0, 0, 0, 2)", x.knew(0, 0, 0, 2), -1);
        due("knew(0, 256, 0, -1)", x.knew(0, 256, 0, -1), -1);
        due("knew(1, 0, 0, 0)", x.knew(1, 0, 0, 0), -1);
        due("knew(0, 256, 0, 0)", x.knew(0, 256, 0, 0), -2);
        due("knew(0, -1, 0, 0)", x.knew(0, -1, 0, 0), -2);
        due("knew(0, 0, 21, 0)", x.knew(0, 0, 21, 0), -2);
        due("knew(0, 0, -1, 1)", x.knew(0, 0, -1, 1), -2);
        build(x, "lose 1 p=0");
        due("all are forgotten", x.knew(0, 0, 1, 0), 256);
    }

    // Promise 21
    private static void odds() {
        ButlerRemembers x = new ButlerRemembers();
        due("odds of none", x.odds(0, 0), NO);
        x.footman(1);
        due("odds(1, 0) of one", x.odds(1, 0), 0);
        due("odds(1, 1) of one", x.odds(1, 1), 1);
        due("odds(0, 0) of one", x.odds(0, 0), 1);
        x.footman(2);
        x.footman(4);
        x.footman(3);
        due("odds(3, 0)", x.odds(3, 0), 1);
        due("odds(3, 1)", x.odds(3, 1), 1);
        due("odds(7, 0)", x.odds(7, 0), 3);
        due("odds(7, 1)", x.odds(7, 1), 4);
        x.out(3, true);
        due("odds(3, 0), one out", x.odds(3, 0), 1);
        due("odds(3, 1), one out", x.odds(3, 1), 2);
        due("odds(7, 0), one out", x.odds(7, 0), 1);
        due("odds(7, 1), one out", x.odds(7, 1), 4);
        due("odds(8, 1)", x.odds(8, 1), 1);
        due("odds(256, 0)", x.odds(256, 0), NO);
        due("odds(-1, 0)", x.odds(-1, 0), NO);
        due("odds(0, 2)", x.odds(0, 2), NO);
        due("odds(0, -1)", x.odds(0, -1), NO);
    }

    // Promise 22
    private static void means() {
        ButlerRemembers x = new ButlerRemembers();
        due("mean of none", x.mean(0, 0), NO);
        x.master(0, 0);
        due("mean of nothing", x.mean(0, 0), 0);
        due("mean of nothing, below", x.mean(0, 1), 1);
        x.master(2, 0);
        x.master(0, 0);
        x.master(0, 0);
        x.mind(0, 15);
        x.mind(1, 3);
        due("mean(0, 0)", x.mean(0, 0), 3);
        due("mean(0, 1)", x.mean(0, 1), 2);
        due("mean(2, 0)", x.mean(2, 0), 1);
        due("mean(2, 1)", x.mean(2, 1), 1);
        due("mean(60, 0)", x.mean(60, 0), 1);
        due("minds stay", x.of(1, 2), 3);
        due("mean(61, 0)", x.mean(61, 0), NO);
        due("mean(-1, 0)", x.mean(-1, 0), NO);
        due("mean(0, 2)", x.mean(0, 2), NO);
        due("mean(0, -1)", x.mean(0, -1), NO);
    }

    // Promises 23 and 24
    private static void plans() {
        ButlerRemembers x = new ButlerRemembers();
        due("plan(1, 0) of none", x.plan(1, 0), -1);
        due("plan(2, 0) of none", x.plan(2, 0), -1);
        due("plan(0, MIN)", x.plan(0, Integer.MIN_VALUE), 1);
        due("plan(-1, 5)", x.plan(-1, 5), 0);
        x.master(0, 0);
        x.master(0, 0);
        x.mind(0, 3);
        x.deed(0, 1, 0);
        x.deed(1, 128, 0);
        build(x, "lose 1 d=1&f=0;lose 1 d=0&f=7");
        due("ends(0) of no plan", x.ends(0), 2);
        due("ends(1) of no plan", x.ends(1), 1);
        due("plan(1, 0)", x.plan(1, 0), 1);
        due("plan(1, 9)", x.plan(1, 9), -1);
        due("plan(-1, 0)", x.plan(-1, 0), 0);
        due("plan(1, 17)", x.plan(1, 17), 1);
        due("ends(0)", x.ends(0), 3);
        due("ends(1)", x.ends(1), 3);
        due("plan(0, 0)", x.plan(0, 0), 2);
        due("ends(1)", x.ends(1), 1);
        due("plan(1, 17)", x.plan(1, 17), 3);
        due("plan(0, 0)", x.plan(0, 0), 4);
        due("ends(1)", x.ends(1), 2);
        due("ends(0)", x.ends(0), 2);
        due("plan(2, 1)", x.plan(2, 1), 5);
        due("ends(0)", x.ends(0), 1);
        due("plan(1, 7)", x.plan(1, 7), 6);
        due("plan(1, 7)", x.plan(1, 7), 7);
        due("ends(0)", x.ends(0), 2);
        due("day stays", x.told(0), 0);
        due("minds stay", x.of(0, 2), 3);
        due("plan(1, 8)", x.plan(1, 8), -1);
        due("plan(1, 19)", x.plan(1, 19), -1);
        due("plan(1, 20)", x.plan(1, 20), -1);
        due("plan(1, -1)", x.plan(1, -1), -1);
        due("plan(1, -9)", x.plan(1, -9), -1);
        due("plan(2, 2)", x.plan(2, 2), -1);
        due("plan(2, -1)", x.plan(2, -1), -1);
        due("plan(3, 0)", x.plan(3, 0), -1);
        due("plan(-2, 0)", x.plan(-2, 0), -1);
        due("plan", x.plan(0, 0), 8);
        due("plan", x.plan(0, 0), 9);
        due("plan", x.plan(0, 0), 10);
        due("plan beyond 10", x.plan(0, 0), -4);
        due("none beyond 10", x.plan(3, 0), -1);
        due("ends(2)", x.ends(2), -1);
        due("ends(-1)", x.ends(-1), -1);
        due("plan(-1, 0)", x.plan(-1, 0), 0);
        due("count", x.count(5), 0);
    }

    // Promises 25 and 26
    private static void books() {
        ButlerRemembers x = new ButlerRemembers();
        due("book of none", x.book(0, 256), -1);
        due("book(-1, 256)", x.book(-1, 256), 0);
        x.master(0, 0);
        x.master(0, 0);
        x.mind(1, 9);
        due("book(0, 256)", x.book(0, 256), -2);
        due("book(0, -1)", x.book(0, -1), -2);
        due("book(2, 0)", x.book(2, 0), -1);
        due("book(-2, 0)", x.book(-2, 0), -1);
        due("looked at none", x.looked(), -5);
        due("book", x.book(0, 0), 1);
        due("book", x.book(1, 9), 2);
        due("looked", x.looked(), -5);
        due("book", x.book(0, 1), 3);
        due("looked", x.looked(), 2);
        x.mind(1, 8);
        due("looked", x.looked(), 1);
        x.mind(0, 2);
        due("looked", x.looked(), 0);
        for (int i = 4; i <= 8; i++) {
            due("book", x.book(1, 255), i);
        }
        due("book beyond 8", x.book(0, 0), -4);
        due("bad book beyond 8", x.book(0, 256), -2);
        due("count", x.count(6), 8);
        due("book(-1, 0)", x.book(-1, 0), 0);
        due("looked", x.looked(), -5);
    }

    // Promise 27
    private static void judges() {
        ButlerRemembers x = new ButlerRemembers();
        due("judge(-1, 0)", x.judge(-1, 0), -1);
        due("judge(6, 0)", x.judge(6, 0), -1);
        due("no masters, no row", x.judge(0, -1), -5);
        x.tape(0, 1, 4);
        x.tape(1, 2, 4);
        due("no masters, far place", x.judge(0, 99), -5);
        due("no masters, ints", x.judge(1, 0), -12);
        x.master(0, 0);
        x.master(0, 0);
        x.mind(0, 3);
        x.mind(1, 255);
        due("nothing there", x.judge(2, 0), 100);
        due("ints", x.judge(1, -1), -12);
        due("first is otherwise", x.judge(0, 0), 0);
        x.item(0, 1, 3);
        x.item(0, 2, 255);
        due("none is otherwise", x.judge(0, 1), -5);
        x.item(0, 2, -1);
        due("second is otherwise", x.judge(0, 1), 1);
        x.item(0, 3, 3);
        due("the row ends", x.judge(0, 3), 101);
        due("place at the end", x.judge(0, 4), 100);
        due("place beyond", x.judge(0, Integer.MAX_VALUE), 100);
        due("place below 0", x.judge(0, -1), 100);
        x.tape(0, 1, 0);
        due("a row of none", x.judge(0, 0), 100);
    }

    // Promises 28 and 29
    private static void images() {
        ButlerRemembers x = new ButlerRemembers();
        due("undo", x.undo(), -3);
        x.master(6, 4);
        x.row(0, 1, 7);
        x.mind(0, 5);
        x.deed(0, 1, 2);
        x.footman(3);
        x.out(0, true);
        x.pass(2);
        x.mind(0, 5);
        x.see(0, 0, 0, true);
        x.plan(0, 0);
        x.book(0, 5);
        build(x, "hours 9");
        due("image", x.image(), 1);
        x.master(0, 0);
        x.row(0, 1, 2);
        x.mind(0, 9);
        x.deed(1, 2, 2);
        x.footman(4);
        x.out(0, false);
        x.out(1, true);
        x.pass(5);
        x.see(-1, 0, 0, true);
        x.plan(-1, 0);
        x.plan(2, 1);
        x.book(-1, 0);
        x.book(1, 1);
        x.book(1, 1);
        build(x, "hours 8");
        x.feed('k');
        x.tape(0, 3, 1);
        x.item(0, 0, 77);
        x.act(0, 0, 1);
        for (int i = 0; i < 2; i++) {
            due("undo", x.undo(), 1);
            due("masters", x.count(0), 1);
            due("mind", x.of(0, 2), 5);
            due("row", x.row(0, 1, 3), 7);
            due("deeds", x.count(1), 1);
            due("footmen", x.count(2), 1);
            due("outs", x.told(10), 1);
            due("day", x.told(0), 2);
            due("seen", x.count(4), 1);
            due("plan", x.count(5), 1);
            due("book", x.count(6), 1);
            due("looked", x.looked(), -5);
            due("hours", x.told(1), 9);
            due("houses stay", x.count(3), 2);
            due("text stays", x.count(7), 1);
            due("tape stays", x.read(0, 0), 77);
            due("trace stays", x.count(8), 2);
            x.mind(0, 0);
        }
        x.house();
        due("a house comes behind all", build(x, "hours 7"), 2);
        due("it holds", x.told(1), 7);
        due("image again", x.image(), 1);
        due("newer image", x.undo(), 1);
        due("newer mind", x.of(0, 2), 0);
        due("newer house", x.told(1), 7);
        emptyImage();
        handRowsInImage();
    }

    private static void handRowsInImage() {
        ButlerRemembers x = new ButlerRemembers();
        x.master(0, 0);
        x.mind(0, 3);
        x.see(0, 0, 0, true);
        x.see(0, 1, 0, false);
        x.plan(1, 5);
        x.plan(1, 6);
        x.book(0, 3);
        x.book(0, 4);
        x.image();
        x.see(-1, 0, 0, true);
        x.see(0, 0, 0, false);
        x.see(0, 0, 0, false);
        x.plan(-1, 0);
        x.plan(2, 0);
        x.plan(2, 0);
        x.book(-1, 0);
        x.book(0, 5);
        x.book(0, 3);
        due("wrong then", x.wrong(), 0);
        due("ends then", x.ends(0), 0);
        due("looked then", x.looked(), 0);
        x.undo();
        due("wrong as in the image", x.wrong(), 1);
        due("ends as in the image", x.ends(0), 4);
        due("looked as in the image", x.looked(), 1);
    }

    private static void emptyImage() {
        ButlerRemembers x = new ButlerRemembers();
        due("image of nothing", x.image(), 0);
        x.master(6, 1);
        x.row(0, 0, 9);
        x.mind(0, 255);
        x.footman(9);
        x.out(0, true);
        build(x, "lose 9 p=0;hours 1");
        due("undo to nothing", x.undo(), 0);
        due("no house holds", x.told(1), 6);
        due("master anew", x.master(6, 2), 0);
        due("mind anew", x.of(0, 2), 0);
        due("row anew", x.row(0, 0, 1), 0);
        due("grip anew", x.grip(0, 0, 0), 1);
        due("footman anew", x.footman(1), 0);
        due("in anew", x.told(10), 0);
    }

    private static void ran(ButlerRemembers x, String call, int got, int want, int... bodies) {
        due(call, got, want);
        due(call + ": how many bodies", x.count(8), bodies.length);
        for (int i = 0; i < bodies.length; i++) {
            due(call + ": trace(" + i + ")", x.trace(i), bodies[i]);
        }
        due(call + ": end of trace", x.trace(bodies.length), -1);
    }

    // Promises 30 and 31
    private static void acts() {
        ButlerRemembers x = new ButlerRemembers();
        due("act of none", x.act(0, 0, 5), 0);
        due("trace(-1)", x.trace(-1), -1);
        x.master(0, 7);
        x.master(1, 7);
        x.master(2, 7);
        x.master(3, 7);
        x.master(4, 7);
        x.master(5, 7);
        ran(x, "master dines", x.act(0, 0, 5), 5, 10);
        ran(x, "master nods", x.act(0, 1, 5), -2, 11, 10);
        ran(x, "master tells", x.act(0, 2, 5), -4, 12, 11, 10);
        ran(x, "heir dines", x.act(1, 0, 5), 6, 10);
        ran(x, "heir nods", x.act(1, 1, 5), -1 ^ 6, 20, 11, 10);
        ran(x, "heir tells", x.act(1, 2, 5), (-1 ^ 6) * 2, 12, 20, 11, 10);
        ran(x, "duchess dines", x.act(2, 0, 5), 17, 30, 10);
        ran(x, "duchess nods", x.act(2, 1, 5), 10, 11, 30, 10);
        ran(x, "duchess tells", x.act(2, 2, 5), 20, 12, 11, 30, 10);
        ran(x, "cousin nods", x.act(3, 1, 5), 1, 11, 10);
        ran(x, "cousin tells", x.act(3, 2, 5), 2 + (1 + 3 - 7), 40, 12, 11, 10, 11, 10);
        ran(x, "bishop dines", x.act(4, 0, 5), -9, 50, 10);
        ran(x, "bishop nods", x.act(4, 1, 5), (-10 - 7) ^ 6, 51, 20, 11, 50, 10);
        ran(x, "bishop tells", x.act(4, 2, 5), ((-10 - 7) ^ 6) * 2, 12, 51, 20, 11, 50, 10);
        ran(x, "daughter dines", x.act(5, 0, 4), 17, 30, 10);
        ran(x, "daughter tells", x.act(5, 2, 4), ((4 - 5) * 3 + 5 - 7) * 2, 60, 12, 11, 30, 10);
        ran(x, "act 3", x.act(0, 3, 4), 0);
        x.act(0, 0, 1);
        ran(x, "act -1", x.act(0, -1, 4), 0);
        x.act(0, 0, 1);
        ran(x, "no master", x.act(6, 0, 4), 0);
        ran(x, "wraps", x.act(1, 0, Integer.MAX_VALUE), Integer.MIN_VALUE, 10);
        ran(x, "wraps by 3", x.act(2, 0, Integer.MAX_VALUE), Integer.MAX_VALUE * 3 + 2, 30, 10);
        actsOfTold();
    }

    private static void actsOfTold() {
        ButlerRemembers x = new ButlerRemembers();
        x.master(0, 0);
        x.master(6, 5);
        ran(x, "told dines", x.act(1, 0, 9), 10 ^ 5, 71, 10);
        ran(x, "told nods", x.act(1, 1, 9), (10 ^ 5) - 5 + 3, 70, 11, 71, 10, 10);
        int nods9 = (10 ^ 5) - 5 + 3;
        int nods1 = (2 ^ 5) - 5 + 3;
        ran(x, "told tells", x.act(1, 2, 9), nods9 * 2 + nods1,
            40, 12, 70, 11, 71, 10, 10, 70, 11, 71, 10, 10);
    }

    // Promise 32
    private static void taken() {
        String[] under = {"0", "01", "02", "03", "014", "025", "036"};
        for (int kind = 0; kind < 7; kind++) {
            ButlerRemembers x = new ButlerRemembers();
            due("taken of none", x.taken(0, kind), -11);
            x.master(kind, 0);
            for (int k = 0; k < 7; k++) {
                boolean is = under[kind].indexOf('0' + k) >= 0;
                due(kind + " taken for " + k, x.taken(0, k), is ? kind : -12);
            }
            due("taken(0, 7)", x.taken(0, 7), -2);
            due("taken(0, -1)", x.taken(0, -1), -2);
            due("taken(-1, 7)", x.taken(-1, 7), -2);
            due("taken(1, 0)", x.taken(1, 0), -11);
            due("taken(-1, 0)", x.taken(-1, 0), -11);
        }
    }

    // Promise 33
    private static void counts() {
        ButlerRemembers x = new ButlerRemembers();
        x.master(1, 0);
        x.master(0, 0);
        x.deed(0, 0, 0);
        x.deed(0, 0, 0);
        x.deed(0, 0, 0);
        x.footman(0);
        build(x, "hours 1");
        build(x, "hours 1");
        build(x, "hours 1");
        build(x, "hours 1");
        x.see(0, 0, 0, true);
        x.plan(0, 0);
        x.plan(0, 0);
        x.book(0, 0);
        x.book(0, 0);
        x.book(0, 0);
        x.feed(1);
        x.act(0, 1, 1);
        int[] want = {2, 3, 1, 4, 1, 2, 3, 1, 3};
        for (int what = 0; what < want.length; what++) {
            due("count(" + what + ")", x.count(what), want[what]);
        }
        due("count(-1)", x.count(-1), -2);
        due("count(9)", x.count(9), -2);
    }

    private static void cut(int sort, long v, long want) {
        ButlerRemembers x = new ButlerRemembers();
        x.tape(3, sort, 60);
        due("item", x.item(3, 59, v), 1);
        due("sort " + sort + " of " + v, x.read(3, 59), want);
        due("another item", x.read(3, 58), 0);
    }

    // Promises 34, 35 and 36
    private static void tapes() {
        ButlerRemembers x = new ButlerRemembers();
        due("tape(-1, 0, 0)", x.tape(-1, 0, 0), -1);
        due("tape(6, 5, 0)", x.tape(6, 5, 0), -1);
        due("tape(0, 5, -1)", x.tape(0, 5, -1), -2);
        due("tape(0, -2, 0)", x.tape(0, -2, 0), -2);
        due("tape(0, 0, 61)", x.tape(0, 0, 61), -2);
        due("tape(0, 0, -1)", x.tape(0, 0, -1), -14);
        due("tape(0, 2, 60)", x.tape(0, 2, 60), 1);
        due("item(0, 59, 5)", x.item(0, 59, 5), 1);
        due("refused", x.tape(0, 0, 61), -2);
        due("refused", x.tape(0, 0, -1), -14);
        due("stays", x.read(0, 59), 5);
        due("item(0, 60, 5)", x.item(0, 60, 5), -13);
        due("item(0, -1, 5)", x.item(0, -1, 5), -13);
        due("item(6, 0, 5)", x.item(6, 0, 5), -1);
        due("item(-1, 0, 5)", x.item(-1, 0, 5), -1);
        due("item(1, -1, 5)", x.item(1, -1, 5), -11);
        due("read(0, 60)", x.read(0, 60), NO);
        due("read(0, -1)", x.read(0, -1), NO);
        due("read(6, 0)", x.read(6, 0), NO);
        due("read(-1, 0)", x.read(-1, 0), NO);
        due("read(1, 0)", x.read(1, 0), NO);
        due("tape anew", x.tape(0, 2, 60), 1);
        due("all 0", x.read(0, 59), 0);
        due("tape(0, 3, 0)", x.tape(0, 3, 0), 1);
        due("no place", x.item(0, 0, 1), -13);
        due("holds nothing", x.tape(0, -1, -7), 1);
        due("nothing", x.item(0, 0, 1), -11);
        cut(0, 127, 127);
        cut(0, 128, -128);
        cut(0, 0x1ffL, -1);
        cut(1, 32768, -32768);
        cut(1, 65536, 0);
        cut(2, 1L << 31, Integer.MIN_VALUE);
        cut(2, 1L << 32, 0);
        cut(2, -1, -1);
        cut(3, Long.MIN_VALUE, Long.MIN_VALUE);
        cut(3, Long.MAX_VALUE, Long.MAX_VALUE);
        cut(4, 256, 1);
        cut(4, 1L << 40, 1);
        cut(4, -1, 1);
        cut(4, 0, 0);
    }

    private static String row(ButlerRemembers x, int tape, int n) {
        StringBuilder s = new StringBuilder();
        for (int i = 0; i < n; i++) {
            s.append(x.read(tape, i)).append(' ');
        }
        return s.toString();
    }

    private static void rowDue(ButlerRemembers x, int tape, int n, String want) {
        String got = row(x, tape, n);
        due("row is " + got + ", due is " + want, got.equals(want) ? 1 : 0, 1);
    }

    // Promise 37
    private static void shifts() {
        ButlerRemembers x = new ButlerRemembers();
        x.tape(0, 0, 5);
        x.tape(1, 0, 3);
        x.tape(2, 1, 5);
        for (int i = 0; i < 5; i++) {
            x.item(0, i, i + 1);
        }
        due("to a higher place", x.shift(0, 0, 0, 1, 4), 4);
        rowDue(x, 0, 5, "1 1 2 3 4 ");
        due("to a lower place", x.shift(0, 2, 0, 0, 3), 3);
        rowDue(x, 0, 5, "2 3 4 3 4 ");
        due("to another", x.shift(0, 1, 1, 1, 2), 2);
        rowDue(x, 1, 3, "0 3 4 ");
        due("none at the ends", x.shift(0, 5, 1, 3, 0), 0);
        due("beyond the first's end", x.shift(0, 6, 1, 0, 0), -13);
        due("beyond the other's end", x.shift(0, 0, 1, 4, 0), -13);
        due("too many for the other", x.shift(0, 0, 1, 0, 4), -13);
        due("too many for the first", x.shift(1, 0, 0, 0, 4), -13);
        due("n below 0", x.shift(0, 0, 1, 0, -1), -13);
        due("i below 0", x.shift(0, -1, 1, 0, 1), -13);
        due("j below 0", x.shift(0, 0, 1, -1, 1), -13);
        due("i far", x.shift(0, Integer.MAX_VALUE, 1, 0, 1), -13);
        due("n far", x.shift(0, 1, 1, 1, Integer.MAX_VALUE), -13);
        due("unlike", x.shift(0, -1, 2, 0, 1), -12);
        due("nothing in the other", x.shift(0, -1, 3, 0, 1), -11);
        due("nothing in the first", x.shift(3, -1, 0, 0, 1), -11);
        due("no such tape", x.shift(-1, 0, 3, 0, 1), -1);
        due("no such other", x.shift(3, 0, 6, 0, 1), -1);
        rowDue(x, 0, 5, "2 3 4 3 4 ");
        rowDue(x, 1, 3, "0 3 4 ");
    }
}
