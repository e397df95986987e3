/** The edges that the document names for the text and the houses: promises 12 and 13. */
public final class TextBoundsTest {
    /** A text with a house, and where a house ends in it already. */
    private static final String LONG = "keep 12 !(p=1|k<23)&v>0;lose 3 ((f=7))|d=0;hours 45;hours 6";
    private static final int[] COMPLETE = {19, 23, 38, 42, 50, 51, 59};

    public static void main(String[] args) {
        signs();
        fullText();
        hundredBytes();
        noClause();
        endsTooEarly();
        firstWrongByte();
        endOfLetters();
        words();
        blanks();
        digits();
        letters();
        wrongEnds();
        tenClauses();
        fourDeep();
        fiveDeep();
        besideOneAnother();
        waitingAtEachDepth();
        faultChangesNoHouse();
        faultLeavesNothing();
        fullOfHouses();
        newestHolds();
        hours();
        numbersInTests();
        valuesOfTests();
        eachLetterAndSign();
        Run.end();
    }

    private static Run fed(String text) {
        return new Run().text(text);
    }

    /** A fault leaves no house, and an empty text. */
    private static void fault(int place, String text) {
        fed(text).due(-10 - place, "house").due(0, "count", 3).due(0, "count", 7).due(6, "told", 1);
    }

    private static void fine(String text) {
        fed(text).due(0, "house").due(1, "count", 3).due(0, "count", 7);
    }

    private static void signs() {
        Run.says("Promise 12: A sign (0 .. 127); BAD");
        Run x = new Run().due(1, "feed", 0).due(2, "feed", 127);
        for (int sign : new int[] {-1, 128, 255, 256, Run.LEAST, Run.GREATEST, 'k' + 256, 'k' - 256}) {
            x.due(-2, "feed", sign).due(2, "count", 7);
        }
        x.due(3, "feed", 1).due(-10, "house");
    }

    private static void fullText() {
        Run.says("Terms: THE TEXT (bytes, 100 at most); Promise 12: FULL");
        Run x = new Run();
        for (int i = 1; i <= 100; i++) {
            x.due(i, "feed", i);
        }
        x.due(-4, "feed", 'k').due(-4, "feed", 0).due(-4, "feed", 127).due(100, "count", 7);
        Run.says("Promise 12: BAD ahead of FULL");
        x.due(-2, "feed", -1).due(-2, "feed", 128).due(100, "count", 7);
        Run.says("Promise 13: THE TEXT, which is empty then");
        x.due(-10, "house").due(0, "count", 7).due(1, "feed", 'k');
    }

    private static String tests(int n) {
        StringBuilder s = new StringBuilder("keep 1 f=1");
        for (int i = 1; i < n; i++) {
            s.append("|f=").append(i % 8);
        }
        return s.toString();
    }

    private static void hundredBytes() {
        Run.says("Terms: a HOUSE of 100 bytes");
        String hundred = "keep 10 " + tests(23).substring(7) + "5";
        fine(hundred.substring(0, 99));
        Run x = fed(hundred).due(100, "count", 7).due(-4, "feed", '5').due(0, "house").due(0, "count", 7);
        x.does("master", 0, 0).due(11, "grip", 0, 7, 0).due(11, "grip", 0, 0, 0);
        Run.says("Terms: the FAULT at the end of 100 bytes");
        fault(100, hundred.substring(0, 99) + "&");
        fault(99, hundred.substring(0, 99) + "x");
    }

    private static void noClause() {
        Run.says("Terms: CLAUSES, 1 to 10: none is no HOUSE");
        fault(0, "");
        fault(0, ";");
        fault(0, " ");
        fault(0, "\0");
        fault(0, ";hours 1");
    }

    private static boolean isComplete(int length) {
        for (int end : COMPLETE) {
            if (end == length) {
                return true;
            }
        }
        return false;
    }

    private static void endsTooEarly() {
        Run.says("Terms: the end of THE TEXT, if it ends too early");
        for (int length = 0; length <= LONG.length(); length++) {
            String text = LONG.substring(0, length);
            if (isComplete(length)) {
                fine(text);
            } else {
                fault(length, text);
            }
        }
    }

    private static void firstWrongByte() {
        Run.says("Terms: the FAULT: the place of the first byte with which none begins so");
        for (int place = 0; place < LONG.length(); place++) {
            fault(place, LONG.substring(0, place) + "\1" + LONG.substring(place + 1));
            fault(place, LONG.substring(0, place) + "~" + LONG.substring(place));
            fault(place, LONG.substring(0, place) + "\0");
        }
        fault(LONG.length(), LONG + "\0");
    }

    private static void endOfLetters() {
        Run.says("Terms: signs next to those that are meant");
        for (char sign : new char[] {'/', ':'}) {
            fault(5, "keep " + sign + " p=1");
            fault(6, "keep 1" + sign + " p=1");
            fault(9, "keep 1 p=" + sign);
            fault(10, "keep 1 p=1" + sign);
        }
        for (char sign : new char[] {';', '?', '!', '~', '-'}) {
            fault(8, "keep 1 p" + sign + "1");
        }
        for (int letter = 'a'; letter <= 'z'; letter++) {
            String text = "keep 1 " + (char) letter + "=1";
            if ("pkvfds".indexOf(letter) < 0) {
                fault(7, text);
            } else {
                fine(text);
            }
            fault(7, "keep 1 " + Character.toUpperCase((char) letter) + "=1");
        }
    }

    private static void words() {
        Run.says("Terms: keep n E; lose n E; hours n");
        for (String word : new String[] {"keep", "lose", "hours"}) {
            String rest = word.equals("hours") ? " 1" : " 1 p=1";
            fine(word + rest);
            for (int i = 0; i < word.length(); i++) {
                fault(i, word.substring(0, i) + Character.toUpperCase(word.charAt(i)) + word.substring(i + 1) + rest);
                fault(i, word.substring(0, i));
            }
            fault(word.length(), word + word.charAt(word.length() - 1) + rest);
        }
        Run.says("Terms: hours has no E, keep and lose have one");
        fault(7, "hours 1 p=1");
        fault(7, "hours 1p=1");
        fault(6, "keep 1;hours 1");
        fault(7, "lose 1 ;hours 1");
        Run.says("Terms: a word that begins as another");
        fault(1, "kose 1 p=1");
        fault(1, "leep 1 p=1");
        fault(1, "heep 1 p=1");
        fault(3, "houus 1");
    }

    private static void blanks() {
        Run.says("Terms: one blank ahead of each part behind the word");
        fault(4, "keep1 p=1");
        fault(5, "keep  1 p=1");
        fault(6, "keep 1p=1");
        fault(7, "keep 1  p=1");
        fault(5, "hours1");
        fault(6, "hours  1");
        fault(0, " hours 1");
        fault(7, "hours 1 ");
        fault(8, "hours 1; hours 1");
        fault(7, "hours 1 ;hours 1");
        fault(8, "keep 1 p =1");
        fault(9, "keep 1 p= 1");
        fault(10, "keep 1 p=1 &p=1");
        fault(11, "keep 1 p=1& p=1");
        fault(8, "keep 1 ! p=1");
        fault(8, "keep 1 ( p=1)");
        fault(11, "keep 1 (p=1 )");
        fault(4, "keep\t1 p=1");
    }

    private static void digits() {
        Run.says("Terms: n 1 or 2 digits; a number (1 or 2 digits)");
        for (String n : new String[] {"0", "9", "00", "09", "10", "99"}) {
            fine("keep " + n + " p=1");
            fine("lose " + n + " p=1");
            fine("hours " + n);
            fine("keep 1 p=" + n);
            fine("keep 1 (p=" + n + ")&p<" + n + "|p>" + n);
        }
        fault(7, "keep 100 p=1");
        fault(7, "lose 000 p=1");
        fault(8, "hours 100");
        fault(11, "keep 1 p=100");
        fault(11, "keep 1 p=001&p=1");
        fault(5, "keep  p=1");
        fault(5, "keep p=1");
        fault(6, "hours ;hours 1");
        fault(9, "keep 1 p=&p=1");
        fault(5, "keep -1 p=1");
        fault(5, "keep +1 p=1");
    }

    private static void letters() {
        Run.says("Terms: a TEST: a letter, < or = or >, a number");
        fault(8, "keep 1 pp=1");
        fault(7, "keep 1 =1");
        fault(7, "keep 1 1=p");
        fault(9, "keep 1 p<=1");
        fault(9, "keep 1 p>=1");
        fault(9, "keep 1 p==1");
        fault(9, "keep 1 p=p");
        fault(8, "keep 1 p1");
        fault(8, "keep 1 p(");
    }

    private static void wrongEnds() {
        Run.says("Terms: E: T or T|E. T: F or F&T. F: !F, (E), or a TEST");
        fault(7, "keep 1 |p=1");
        fault(7, "keep 1 &p=1");
        fault(11, "keep 1 p=1||p=1");
        fault(11, "keep 1 p=1|&p=1");
        fault(11, "keep 1 p=1&&p=1");
        fault(11, "keep 1 p=1&|p=1");
        fault(11, "keep 1 p=1&;hours 1");
        fault(11, "keep 1 p=1|;hours 1");
        fault(11, "keep 1 p=1|)");
        fault(7, "keep 1 )");
        fault(10, "keep 1 p=1)");
        fault(12, "keep 1 (p=1))");
        fault(11, "keep 1 (p=1;hours 1");
        fault(8, "keep 1 ()");
        fault(8, "keep 1 !)");
        fault(8, "keep 1 !&p=1");
        fault(10, "keep 1 p=1(p=1)");
        fault(12, "keep 1 (p=1)(p=1)");
        fault(12, "keep 1 (p=1)!p=1");
        fault(12, "keep 1 (p=1)1");
        fault(10, "keep 1 p=1=1");
        fault(11, "keep 1 !p=1!");
    }

    private static String clauses(int n) {
        StringBuilder s = new StringBuilder("hours 0");
        for (int i = 1; i < n; i++) {
            s.append(";hours ").append(i % 10);
        }
        return s.toString();
    }

    private static void tenClauses() {
        Run.says("Terms: CLAUSES, 1 to 10, with ; between");
        fine(clauses(1));
        fine(clauses(9));
        fed(clauses(10)).due(0, "house").due(9, "told", 1);
        fault(79, clauses(10) + ";");
        fault(79, clauses(10) + ";hours 1");
        fault(79, clauses(10) + ";x");
        fault(72, clauses(9) + ";");
        fault(72, clauses(9) + ";;");
        Run.says("Terms: of ten CLAUSES the tenth counts too");
        fed(clauses(9) + ";keep 5 p=0").due(0, "house").does("master", 0, 0).due(6, "grip", 0, 0, 0).due(8, "told", 1);
    }

    private static String opening(int bits, int depth) {
        StringBuilder s = new StringBuilder();
        for (int i = 0; i < depth; i++) {
            s.append((bits >> i & 1) == 0 ? '(' : '!');
        }
        return s.toString();
    }

    private static String closed(String opening) {
        return opening + "p=0" + ")".repeat(opening.replace("!", "").length());
    }

    private static void fourDeep() {
        Run.says("Terms: A ( or ! within 3 others is one");
        for (int bits = 0; bits < 16; bits++) {
            String four = opening(bits, 4);
            boolean odd = four.replace("(", "").length() % 2 == 1;
            fed("keep 7 " + closed(four)).due(0, "house").does("master", 0, 0).due(odd ? 1 : 8, "grip", 0, 0, 0);
        }
    }

    private static void fiveDeep() {
        Run.says("Terms: A ( or ! within 4 others is none");
        for (int bits = 0; bits < 32; bits++) {
            fault(11, "keep 1 " + closed(opening(bits, 5)));
        }
        fault(19, "keep 1 (p=1|(!(p=1&!p=1)))");
        fault(15, "keep 1 p=1&((((!p=1))))");
        fault(19, "keep 1 ((((p=1|p=1&(p=1)))))");
        fault(15, "keep 1 ((((p=1&!p=1))))");
        fault(19, "keep 1 !!!!p=1|((!!!p=1))");
    }

    private static void besideOneAnother() {
        Run.says("Terms: a ( or ! that has ended is not one within which others are");
        fine("keep 1 ((((p=1))))&((((p=1))))|!!!!p=1&!(!(p=1))");
        fine("keep 1 (p=1)&(p=1)&(p=1)&(p=1)&(p=1)&(p=1)|!p=1|!p=1|!p=1|!p=1|!p=1|!p=1");
        fine("keep 1 !!!(p=1&p=1|p=2)&!!!!p=1;lose 1 ((((p=1))))");
    }

    private static void waitingAtEachDepth() {
        Run.says("Terms: E: T or T|E. T: F or F&T, at each depth to the fourth");
        String deep = "p=9|p=0&(p=9|p=0&(p=9|p=0&(p=9|p=0&(p=9|p=0&f=2))))";
        Run x = new Run().does("master", 0, 0).house("keep 5 " + deep);
        x.due(6, "grip", 0, 2, 0).due(1, "grip", 0, 1, 0).due(1, "grip", 0, 3, 0);
        Run y = new Run().does("master", 0, 0).house("keep 5 " + deep.replace("p=0&", "p=9&"));
        y.due(1, "grip", 0, 2, 0).house("keep 5 " + deep.replace("p=9|", "p=0|")).due(6, "grip", 0, 3, 0);
    }

    private static void faultLeavesNothing() {
        Run.says("Promise 13: what stood ahead of a FAULT is in no later HOUSE");
        new Run().does("master", 0, 0).text("keep 9 p=0;hours 3;").due(-29, "house").house("keep 1 f=7")
            .due(6, "told", 1).due(1, "grip", 0, 0, 0).due(2, "grip", 0, 7, 0);
        new Run().does("master", 0, 0).text("hours 3x").due(-17, "house").house("keep 1 f=7").due(6, "told", 1);
        Run.says("Promise 13: THE TEXT ends where it ends, whatever was fed ahead of it");
        new Run().text("hours 123").due(-18, "house").text("hours 1").due(0, "house").due(1, "told", 1);
        new Run().text("hours 1;hours 2").due(0, "house").text("hours 1").due(1, "house").due(1, "told", 1)
            .text("hours").due(-15, "house").text("hours ").due(-16, "house").due(-10, "house");
        new Run().does("master", 0, 0).house("keep 1 p=0|f>0&f<5").text("keep 1 p=0|f>").due(-23, "house")
            .house("keep 1 p=0").due(2, "grip", 0, 0, 0);
    }

    private static void faultChangesNoHouse() {
        Run.says("Promise 13: -10 less the FAULT (the one that held holds)");
        Run x = new Run().does("master", 0, 0).house("keep 5 p=0;hours 9");
        x.text("lose 9 p=0;hours 3x").due(-28, "house");
        x.due(9, "told", 1).due(6, "grip", 0, 0, 0).due(1, "count", 3).due(0, "count", 7);
        x.text("keep 1 p=0;hours 3").due(1, "house").due(3, "told", 1).due(2, "grip", 0, 0, 0);
        Run.says("Promise 13: a FAULT without a HOUSE: none holds");
        new Run().does("master", 0, 0).text("lose 9 p=0;hours 3;").due(-29, "house")
            .due(6, "told", 1).due(1, "grip", 0, 0, 0);
    }

    private static void fullOfHouses() {
        Run.says("Promise 13: FULL: there are 6 (THE TEXT stays)");
        Run x = new Run();
        for (int i = 0; i < 6; i++) {
            x.text("hours 1" + i).due(i, "house").due(i + 1, "count", 3);
        }
        x.due(-4, "house").due(0, "count", 7);
        x.text("hours 3").due(-4, "house").due(7, "count", 7).due(-4, "house").due(7, "count", 7);
        x.due(15, "told", 1).due(6, "count", 3).due(8, "feed", 'x');
        Run.says("Promise 13: FULL ahead of the FAULT");
        x.due(-4, "house").due(8, "count", 7);
        Run.says("Promise 13: the text that stays can grow to 100");
        for (int i = 9; i <= 100; i++) {
            x.due(i, "feed", 'x');
        }
        x.due(-4, "feed", 'x').due(-4, "house").due(100, "count", 7).due(15, "told", 1);
    }

    private static void newestHolds() {
        Run.says("Terms: The newest HOUSE holds");
        Run x = new Run().does("master", 0, 0);
        for (int i = 0; i < 6; i++) {
            x.house("keep 1" + i + " p=0").due(11 + i, "grip", 0, 0, 0).due(6, "told", 1);
        }
    }

    private static void hours() {
        Run.says("Terms: HOURS (6 without): the last one's n");
        new Run().due(6, "told", 1).house("keep 1 p=0").due(6, "told", 1);
        new Run().house("hours 0").due(0, "told", 1).house("keep 1 p=0").due(6, "told", 1);
        new Run().house("hours 99").due(99, "told", 1).house("hours 09;hours 07").due(7, "told", 1);
        new Run().house("hours 5;keep 1 p=0").due(5, "told", 1).house("hours 3;keep 9 p=0;hours 4").due(4, "told", 1);
    }

    private static void numbersInTests() {
        Run.says("Terms: < = > at the number, below and above it");
        int[][] holds = {{1, 0, 0}, {0, 1, 0}, {0, 0, 1}};
        for (int sign = 0; sign < 3; sign++) {
            Run x = new Run().does("master", 0, 0).house("keep 1 f" + "<=>".charAt(sign) + "4");
            for (int f = 3; f <= 5; f++) {
                x.due(1 + holds[sign][f - 3], "grip", 0, f, 0);
            }
        }
        Run x = new Run().does("master", 0, 0);
        x.house("keep 1 f<0;keep 10 f>0").due(1, "grip", 0, 0, 0).due(11, "grip", 0, 1, 0);
        x.house("keep 1 f<7;keep 10 f>7").due(2, "grip", 0, 6, 0).due(1, "grip", 0, 7, 0);
        x.house("keep 1 f<99;keep 10 f>99;keep 20 f=99").due(2, "grip", 0, 0, 0).due(2, "grip", 0, 7, 0);
        x.house("keep 1 f=07;keep 10 f=00").due(11, "grip", 0, 0, 0).due(2, "grip", 0, 7, 0);
    }

    private static void valuesOfTests() {
        Run.says("Terms: p the number of the one, k its KIND, v its v");
        Run x = new Run();
        for (int p = 0; p < 6; p++) {
            x.does("master", 0, 9 - p);
        }
        x.house("keep 1 p=0;keep 5 p=5;keep 10 p>5;keep 20 v=9;keep 40 v=4;keep 80 v<4;keep 99 k>0");
        x.due(22, "grip", 0, 0, 0).due(46, "grip", 5, 0, 0).due(1, "grip", 1, 0, 0);
        new Run().does("master", 4, 0).house("keep 1 k=4;keep 10 k<4;keep 20 k>4;keep 40 v<1").due(42, "grip", 0, 1, 0);
        Run.says("Terms: d the DAY modulo 10, s the DAY modulo 7");
        Run y = new Run().does("master", 0, 0).house("keep 1 d=0;keep 10 d=9;keep 20 s=0;keep 40 s=6;keep 80 d>9|s>6");
        y.due(22, "grip", 0, 0, 0).due(41, "grip", 0, 0, 6).due(21, "grip", 0, 0, 7).due(11, "grip", 0, 0, 9);
        y.due(2, "grip", 0, 0, 10).due(41, "grip", 0, 0, 13).due(21, "grip", 0, 0, 14).due(42, "grip", 0, 0, 20);
        y.until(9999).due(11, "grip", 0, 0, 0).due(2, "grip", 0, 0, 1).due(41, "grip", 0, 0, 3).due(21, "grip", 0, 0, 4);
    }

    private static boolean holds(int value, int sign, int n) {
        return sign == 0 ? value < n : sign == 1 ? value == n : value > n;
    }

    private static void eachLetterAndSign() {
        Run.says("Terms: each letter with < and = and >, for each FACT");
        int[] values = {1, 3, 8, -1, 6, 2};
        for (int letter = 0; letter < 6; letter++) {
            for (int sign = 0; sign < 3; sign++) {
                for (int n = 0; n < 10; n++) {
                    Run x = new Run().does("master", 0, 0).does("master", 3, 8).does("pass", 16);
                    x.house("keep 40 " + "pkvfds".charAt(letter) + "<=>".charAt(sign) + n);
                    for (int fact = 0; fact < 8; fact++) {
                        int value = letter == 3 ? fact : values[letter];
                        x.due(holds(value, sign, n) ? 20 : 0, "grip", 1, fact, 0);
                    }
                }
            }
        }
    }
}
