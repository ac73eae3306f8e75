/** The document's boundary cases of chances: sections 2 and 3 of the terms, promises 5 to 16. */
public final class ChanceEdgesTest {
    private static final int BAD = Sentences.BAD, NONE = Sentences.NONE;
    private static final int A = Sentences.A, B = Sentences.B, C = Sentences.C, ALL = Sentences.ALL;

    private static final Sentences is = new Sentences();

    public static void main(String[] args) {
        sayingShows();
        onOrNot();
        moveWithinHundredths();
        moveFromAboveTo();
        rowsWithoutSayings();
        noLessThanFrom();
        noMoreThanTo();
        ofTheChanceOfY();
        conditionWithoutChance();
        onlyThoseThatAreOn();
        asTheyAreNow();
        couldAtTheEdge();
        boundWhereOtherHasChance();
        boundNone();
        sharesAreComeTo();
        differences();
        firstRows();
        nevers();
        leastTerms();
        greatNumbers();
        quarrelFewest();
        quarrelLeastSet();
        followsByOthers();
        followsAtTheEdge();
        neededFewest();
        neededNone();
        givesOfAll();
        givesOfOne();
        givesWithinLimits();
        is.end();
    }

    private static void could(String text, int due) {
        is.due("could of " + text, is.read(text).could(), due);
    }

    private static void never(String text, int due) {
        is.due("never of " + text, is.read(text).never(), due);
    }

    /** The FORMULA that holds in one WORLD alone. */
    private static String formulaOf(int world) {
        return ((world & 1) != 0 ? "a&" : "!a&") + ((world & 2) != 0 ? "b&" : "!b&") + ((world & 4) != 0 ? "c" : "!c");
    }

    private static void quarrel(ChanceBounds x, int many, int set) {
        is.due("quarrel(0)", x.quarrel(0), many);
        is.due("quarrel(1)", x.quarrel(1), set);
    }

    private static void needed(ChanceBounds x, int thing, int other, int set) {
        is.due("needed(" + thing + ", " + other + ", 0)", x.needed(thing, other, 0), Integer.bitCount(set));
        is.due("needed(" + thing + ", " + other + ", 1)", x.needed(thing, other, 1), set);
    }

    private static void gives(ChanceBounds x, int all, int... each) {
        is.due("gives(-1)", x.gives(-1), all);
        for (int i = 0; i < each.length; i++) {
            is.due("gives(" + i + ")", x.gives(i), each[i]);
        }
    }

    // ---- promises 5, 6, 7

    private static void sayingShows() {
        is.of("saying: 0 X, 1 Y, 2 FROM, 3 TO, 4 whether it is ON. BAD");
        ChanceBounds x = is.read("a&!a if b 0-0;b|!b if !(c|!c) 100-100;a if a 0-100;c 7-7;");
        int[][] due = {{0, B, 0, 0, 1}, {ALL, 0, 100, 100, 1}, {A, A, 0, 100, 1}, {C, ALL, 7, 7, 1}};
        for (int i = -1; i <= 4; i++) {
            for (int what = -1; what <= 5; what++) {
                boolean isThere = i >= 0 && i < 4 && what >= 0 && what < 5;
                is.due("saying(" + i + ", " + what + ")", x.saying(i, what), isThere ? due[i][what] : BAD);
            }
        }
        is.of("saying: there is no such thing: the SAYINGS that were are none any more");
        Sentences.typeAll(x, "a 1-2;");
        is.due("read", x.read(), 1);
        is.due("the first", x.saying(0, 3), 2);
        is.due("the second", x.saying(1, 3), BAD);
    }

    private static void onOrNot() {
        is.of("on: A SAYING is ON (is = 1), or not (0): what it was. BAD");
        ChanceBounds x = is.read("a 1-2;b 3-4;");
        int[] to = {1, 0, 0, 1, 1, 0, 1};
        int was = 1;
        for (int value : to) {
            is.due("on(0, " + value + ")", x.on(0, value), was);
            is.due("saying(0, 4)", x.saying(0, 4), value);
            is.due("count(1)", x.count(1), 1 + value);
            is.due("the other", x.saying(1, 4), 1);
            is.due("there it is still", x.count(0), 2);
            was = value;
        }
        is.due("on(0, 2)", x.on(0, 2), BAD);
        is.due("on(0, -1)", x.on(0, -1), BAD);
        is.due("on(2, 0)", x.on(2, 0), BAD);
        is.due("on(-1, 0)", x.on(-1, 0), BAD);
        is.due("both are ON", x.count(1), 2);
    }

    private static void moveWithinHundredths() {
        is.of("move: FROM (what = 0), TO (1) of a SAYING becomes v (0 .. 100): what it was");
        ChanceBounds x = is.read("a 0-100;b 5-6;");
        is.due("FROM to 100", x.move(0, 0, 100), 0);
        is.due("FROM to 0", x.move(0, 0, 0), 100);
        is.due("TO to 0", x.move(0, 1, 0), 100);
        is.due("TO to 100", x.move(0, 1, 100), 0);
        is.due("FROM to the same", x.move(0, 0, 0), 0);
        is.due("TO to the same", x.move(0, 1, 100), 100);
        for (int v : new int[] {-1, 101, 256, Integer.MIN_VALUE, Integer.MAX_VALUE}) {
            is.due("FROM to " + v, x.move(0, 0, v), BAD);
            is.due("TO to " + v, x.move(0, 1, v), BAD);
        }
        is.due("what = 2", x.move(0, 2, 50), BAD);
        is.due("what = -1", x.move(0, -1, 50), BAD);
        is.due("a third SAYING", x.move(2, 0, 50), BAD);
        is.due("a SAYING ahead", x.move(-1, 0, 50), BAD);
        is.due("FROM stays", x.saying(0, 2), 0);
        is.due("TO stays", x.saying(0, 3), 100);
        is.due("the other's FROM", x.saying(1, 2), 5);
        is.due("the other's TO", x.saying(1, 3), 6);
        x.on(0, 0);
        is.due("of one that is not ON", x.move(0, 1, 9), 100);
        is.due("it is not ON still", x.saying(0, 4), 0);
        is.bounds(x, A, ALL, "0/1", "1/1");
        x.on(0, 1);
        is.bounds(x, A, ALL, "0/1", "9/100");
    }

    private static void moveFromAboveTo() {
        is.of("move: BAD: FROM above TO, too");
        for (int v = 0; v <= 100; v++) {
            ChanceBounds x = is.read("a 40-60;");
            is.due("FROM to " + v, x.move(0, 0, v), v <= 60 ? 40 : BAD);
            is.due("FROM then", x.saying(0, 2), v <= 60 ? v : 40);
            is.due("TO then", x.saying(0, 3), 60);
            ChanceBounds y = is.read("a 40-60;");
            is.due("TO to " + v, y.move(0, 1, v), v >= 40 ? 60 : BAD);
            is.due("TO then", y.saying(0, 3), v >= 40 ? v : 60);
            is.due("FROM then", y.saying(0, 2), 40);
        }
    }

    // ---- section 2, promises 8 to 12

    private static void rowsWithoutSayings() {
        is.of("A ROW gives each WORLD a chance, 0 at least, together 1");
        ChanceBounds x = new ChanceBounds();
        is.due("could", x.could(), 1);
        for (int world = 0; world < 8; world++) {
            is.bounds(x, 1 << world, ALL, "0/1", "1/1");
        }
        is.bounds(x, ALL, ALL, "1/1", "1/1");
        is.bounds(x, 0, ALL, "0/1", "0/1");
        is.bounds(x, 127, ALL, "0/1", "1/1");
        is.bounds(is.read("a|b|c 0-0;"), 1, ALL, "1/1", "1/1");
        is.bounds(is.read("a|b|c 1-1;"), 1, ALL, "99/100", "99/100");
        is.bounds(is.read("a&b&c 100-100;"), 127, ALL, "0/1", "0/1");
    }

    private static void noLessThanFrom() {
        is.of("A SAYING HOLDS in a ROW: the chance of X and Y is no less than FROM");
        ChanceBounds x = is.read("a 30-100;");
        is.bounds(x, A, ALL, "3/10", "1/1");
        Sentences.tellAll(x, 700, 300, 0, 0, 0, 0, 0, 0);
        is.due("300 hold", x.check(), 0);
        Sentences.tellAll(x, 701, 299, 0, 0, 0, 0, 0, 0);
        is.due("299 do not", x.check(), 1);
        is.bounds(is.read("a 0-100;"), A, ALL, "0/1", "1/1");
        is.bounds(is.read("a 100-100;"), A, ALL, "1/1", "1/1");
        is.bounds(is.read("a 1-100;"), A, ALL, "1/100", "1/1");
        is.bounds(is.read("a 99-100;"), A, ALL, "99/100", "1/1");
    }

    private static void noMoreThanTo() {
        is.of("no more than TO hundredths");
        ChanceBounds x = is.read("a 0-30;");
        is.bounds(x, A, ALL, "0/1", "3/10");
        Sentences.tellAll(x, 700, 300, 0, 0, 0, 0, 0, 0);
        is.due("300 hold", x.check(), 0);
        Sentences.tellAll(x, 699, 301, 0, 0, 0, 0, 0, 0);
        is.due("301 do not", x.check(), 1);
        is.bounds(is.read("a 0-0;"), A, ALL, "0/1", "0/1");
        is.bounds(is.read("a 0-1;"), A, ALL, "0/1", "1/100");
        is.bounds(is.read("a 0-99;"), A, ALL, "0/1", "99/100");
        is.bounds(is.read("a 37-37;"), A, ALL, "37/100", "37/100");
    }

    private static void ofTheChanceOfY() {
        is.of("the chance of X and Y .. of the chance of Y (X the first FORMULA, Y the second one, or all WORLDS)");
        ChanceBounds x = is.read("a if b 50-50;");
        is.bounds(x, A, B, "1/2", "1/2");
        is.bounds(x, A, ALL, "0/1", "1/1");
        is.bounds(x, A & B, ALL, "0/1", "1/2");
        // 1 of 3 thousandths is more than 33 hundredths, less than 34.
        ChanceBounds y = is.read("a if b 33-33;a if b 34-34;a if b 33-34;");
        Sentences.tellAll(y, 997, 0, 2, 1, 0, 0, 0, 0);
        is.due("33 to 34 alone holds", y.check(), 2);
        Sentences.tellAll(y, 900, 0, 67, 33, 0, 0, 0, 0);
        is.due("33 of 100 thousandths", y.check(), 1);
        Sentences.tellAll(y, 0, 900, 66, 34, 0, 0, 0, 0);
        is.due("34 of 100, whatever a has", y.check(), 1);
        ChanceBounds z = is.read("a if !a 0-0;a if a 100-100;");
        is.bounds(z, A, ALL, "0/1", "1/1");
        never("a if !a 1-100;", ALL & ~A);
        never("a if a 0-99;", A);
    }

    private static void conditionWithoutChance() {
        is.of("HOLDS: no less and no more than hundredths of 0, where Y has no chance");
        could("a if b&!b 1-1;", 1);
        could("a if b&!b 100-100;a if b&!b 0-0;", 1);
        could("a if b 0-0;a if b 100-100;", 1);
        never("a if b 0-0;a if b 100-100;", B);
        could("a if b 0-0;a if b 100-100;b 0-1;", 1);
        could("a if b 0-0;a if b 100-100;b 1-1;", 0);
        ChanceBounds x = is.read("a if b 40-60;a&!a if b 1-100;");
        Sentences.tellAll(x, 500, 500, 0, 0, 0, 0, 0, 0);
        is.due("both hold", x.check(), 0);
        Sentences.tellAll(x, 500, 499, 1, 0, 0, 0, 0, 0);
        is.due("none holds", x.check(), 2);
    }

    private static void onlyThoseThatAreOn() {
        is.of("CAN BE: ROWS in which all SAYINGS that are ON HOLD");
        ChanceBounds x = is.read("a 10-20;b 30-40;c 50-60;a&b&c 99-100;");
        is.due("all four", x.could(), 0);
        x.on(3, 0);
        is.due("three", x.could(), 1);
        is.bounds(x, A, ALL, "1/10", "1/5");
        x.on(0, 0);
        is.bounds(x, A, ALL, "0/1", "1/1");
        is.bounds(x, B, ALL, "3/10", "2/5");
        x.on(1, 0);
        is.bounds(x, B, ALL, "0/1", "1/1");
        is.bounds(x, C, ALL, "1/2", "3/5");
        x.on(2, 0);
        is.bounds(x, C, ALL, "0/1", "1/1");
        is.firstRow(x, "0/1 0/1 0/1 0/1 0/1 0/1 0/1 1/1");
        x.on(3, 1);
        is.bounds(x, C, ALL, "99/100", "1/1");
    }

    private static void asTheyAreNow() {
        is.of("CAN BE: by SAYINGS as they are now, not as they were when something was asked before");
        ChanceBounds x = new ChanceBounds();
        String[] texts = {"a if b 20-30;", "a if b 20-40;", "a if b 10-40;", "a if c 10-40;", "b if c 10-40;", "b if c 10-40;c if a 0-0;",
            "b if c 10-40;c if b 0-0;", "", "c if a 0-0;b if c 10-40;", "a 100-100;", "a&!a if b&!b 0-0;"};
        String[] least = {"1/5", "1/5", "1/10", "0/1", "0/1", "0/1", "0/1", "0/1", "0/1", "1/1", "0/1"};
        String[] greatest = {"3/10", "2/5", "2/5", "1/1", "1/1", "1/1", "1/1", "1/1", "1/1", "1/1", "1/1"};
        int[] never = {0, 0, 0, 0, 0, A & C, C, 0, A & C, ALL - A, 0};
        for (int n = 0; n < texts.length; n++) {
            Sentences.typeAll(x, texts[n]);
            is.due("read of " + texts[n], x.read(), Sentences.sayingsIn(texts[n]));
            is.bounds(x, A, B, least[n], greatest[n]);
            is.due("never", x.never(), never[n]);
        }
    }

    private static void couldAtTheEdge() {
        is.of("could: Whether there are ROWS that CAN BE");
        could("", 1);
        could("a 0-100;b 0-100;c 0-100;a&b&c 0-100;", 1);
        could("a 40-50;a 50-60;", 1);
        could("a 40-50;a 51-60;", 0);
        could("a 50-50;b&!a 50-50;c&!a&!b 0-0;", 1);
        could("a 50-50;b&!a 50-50;c&!a&!b 1-1;", 0);
        could("a 50-50;b if a 50-50;c if a&b 50-50;a&b&c 12-12;", 0);
        could("a 50-50;b if a 50-50;c if a&b 50-50;a&b&c 12-13;", 1);
        could("a 20-20;b if a 50-50;a&b 10-10;", 1);
        could("a 20-20;b if a 50-50;a&b 11-11;", 0);
        could("a&!a 0-0;", 1);
        could("a&!a 1-1;", 0);
        could("a|!a 100-100;", 1);
        could("a|!a 99-99;", 0);
    }

    private static void boundWhereOtherHasChance() {
        is.of("BOUND .. by ROWS that CAN BE in which that other one has a chance above 0 the least, the greatest share");
        ChanceBounds x = is.read("c if b 100-100;b 0-50;");
        is.bounds(x, C, B, "1/1", "1/1");
        is.bounds(x, C, ALL, "0/1", "1/1");
        is.bounds(x, B, C, "0/1", "1/1");
        ChanceBounds small = is.read("b 0-1;a if b 1-1;");
        is.bounds(small, A, B, "1/100", "1/100");
        is.bounds(small, A & B, ALL, "0/1", "1/10000");
        is.bounds(small, B, A & B, "1/1", "1/1");
        ChanceBounds either = is.read("a if b 0-0;a if c 100-100;");
        is.bounds(either, C, B, "0/1", "0/1");
        is.bounds(either, B, C, "0/1", "0/1");
        is.bounds(either, A, B | C, "0/1", "1/1");
        ChanceBounds some = is.read("a 30-40;");
        is.bounds(some, B, A, "0/1", "1/1");
        is.bounds(some, A, A, "1/1", "1/1");
        is.bounds(some, ALL & ~A, A, "0/1", "0/1");
        is.bounds(some, 0, A, "0/1", "0/1");
        is.bounds(some, ALL, A, "1/1", "1/1");
        is.bounds(some, A, ALL, "3/10", "2/5");
    }

    private static void boundNone() {
        is.of("NONE: there is no such ROW .. NO: NONE, or BAD");
        is.bounds(new ChanceBounds(), A, 0, "none", "none");
        is.bounds(new ChanceBounds(), 0, 0, "none", "none");
        is.bounds(is.read("b 0-0;"), A, B, "none", "none");
        is.bounds(is.read("b 0-0;"), B, B, "none", "none");
        is.bounds(is.read("b 0-0;"), B, ALL, "0/1", "0/1");
        is.bounds(is.read("b 0-0;"), A, B | 1, "0/1", "0/1");
        is.bounds(is.read("a 0-1;a 2-3;"), A, ALL, "none", "none");
        is.bounds(is.read("a if b 0-0;a if b 100-100;"), C, B, "none", "none");
        ChanceBounds x = is.read("a 0-1;a 2-3;");
        x.move(1, 0, 1);
        is.bounds(x, A, ALL, "1/100", "1/100");
        x.move(1, 0, 2);
        is.bounds(x, A, ALL, "none", "none");
    }

    private static void sharesAreComeTo() {
        is.of("(Such shares are always come to.)");
        is.bounds(is.read("a&b 0-1;"), A, B, "0/1", "1/1");
        is.bounds(is.read("a&b 0-1;b 1-100;"), A, B, "0/1", "1/1");
        is.bounds(is.read("a&b 0-1;b 2-100;"), A, B, "0/1", "1/2");
        is.bounds(is.read("a&b 1-1;b 0-100;"), A, B, "1/100", "1/1");
        is.bounds(is.read("b 0-0;a|b 0-100;"), B, A | B, "0/1", "0/1");
        is.bounds(is.read("a if b 20-30;a if b&c 0-0;"), A, B, "1/5", "3/10");
        is.bounds(is.read("a if b 20-30;a if b&c 0-0;"), C, B, "0/1", "4/5");
    }

    private static void differences() {
        is.of("DIFFERENCE of two THINGS: likewise of the chance of the one less the other's");
        ChanceBounds x = new ChanceBounds();
        is.differences(x, A, B, "-1/1", "1/1");
        is.differences(x, A, A, "0/1", "0/1");
        is.differences(x, 0, 0, "0/1", "0/1");
        is.differences(x, ALL, 0, "1/1", "1/1");
        is.differences(x, 0, ALL, "-1/1", "-1/1");
        is.differences(x, A, 0, "0/1", "1/1");
        is.differences(x, A, ALL, "-1/1", "0/1");
        is.differences(x, A, ALL & ~A, "-1/1", "1/1");
        ChanceBounds y = is.read("a 30-40;b 10-20;");
        is.differences(y, A, B, "1/10", "3/10");
        is.differences(y, B, A, "-3/10", "-1/10");
        is.differences(y, A | B, A & B, "1/10", "3/5");
        is.differences(is.read("b 0-0;"), A, B, "0/1", "1/1");
        is.differences(is.read("b 0-0;"), B, A, "-1/1", "0/1");
        is.differences(is.read("a 50-50;"), A, ALL & ~A, "0/1", "0/1");
        is.of("differ: NO: NONE");
        is.differences(is.read("a 0-1;a 2-3;"), A, B, "none", "none");
        is.differences(is.read("a 0-1;a 2-3;"), 0, 0, "none", "none");
    }

    private static void firstRows() {
        is.of("FIRST ROW: of ROWS that CAN BE that with the least chance of WORLD 0, of such of WORLD 1, and so on");
        is.firstRow(new ChanceBounds(), "0/1 0/1 0/1 0/1 0/1 0/1 0/1 1/1");
        is.firstRow(is.read("a&b&c 0-0;"), "0/1 0/1 0/1 0/1 0/1 0/1 1/1 0/1");
        is.firstRow(is.read("a&b&c 0-30;"), "0/1 0/1 0/1 0/1 0/1 0/1 7/10 3/10");
        is.firstRow(is.read("!a&!b&!c 10-20;"), "1/10 0/1 0/1 0/1 0/1 0/1 0/1 9/10");
        is.firstRow(is.read("!a&!b&!c 100-100;"), "1/1 0/1 0/1 0/1 0/1 0/1 0/1 0/1");
        // Each of these worlds could have none, but not all of them.
        is.firstRow(is.read("b|c 0-40;"), "0/1 3/5 0/1 0/1 0/1 0/1 0/1 2/5");
        is.firstRow(is.read("c 0-0;b 0-0;"), "0/1 1/1 0/1 0/1 0/1 0/1 0/1 0/1");
        is.firstRow(is.read("a 0-0;c 25-75;"), "0/1 0/1 1/4 0/1 0/1 0/1 3/4 0/1");
        // The least of WORLD 0 goes ahead of all the others.
        is.firstRow(is.read("!a&!b&!c if !b&!c 50-50;c|b 30-60;"), "1/5 1/5 0/1 0/1 0/1 0/1 0/1 3/5");
        is.of("first: NO: NONE");
        is.firstRow(is.read("a 0-1;a 2-3;"), "none none none none none none none none");
        ChanceBounds x = is.read("a 100-100;a 99-100;");
        is.firstRow(x, "0/1 0/1 0/1 0/1 0/1 0/1 0/1 1/1");
        x.move(1, 1, 99);
        is.firstRow(x, "none none none none none none none none");
        is.differences(x, A, 0, "none", "none");
        x.on(0, 0);
        is.firstRow(x, "0/1 0/1 0/1 0/1 0/1 0/1 1/100 99/100");
        is.differences(x, A, 0, "99/100", "99/100");
    }

    private static void nevers() {
        is.of("NEVER: WORLDS that have no chance in any ROW that CAN BE (all, if none can)");
        never("", 0);
        never("a 0-0;", A);
        never("a 0-1;", 0);
        never("a 99-100;", 0);
        never("a 100-100;", ALL & ~A);
        never("a 50-50;b&!a 50-50;", 1 | 16);
        never("a 50-50;b&!a 49-50;", 0);
        never("a&b&c 100-100;", 127);
        never("!a&!b&!c 100-100;", 254);
        never("a&!a 1-100;", ALL);
        never("a 0-0;b 0-0;c 0-0;", 254);
        never("a 0-0;b 0-0;c 0-0;!a&!b&!c 0-0;", ALL);
        for (int world = 0; world < 8; world++) {
            never(formulaOf(world) + " 0-100;", 0);
            never(formulaOf(world) + " 0-1;", 0);
            never(formulaOf(world) + " 0-0;", 1 << world);
            never(formulaOf(world) + " 99-100;", 0);
            never(formulaOf(world) + " 100-100;", ALL - (1 << world));
        }
        ChanceBounds x = is.read("a 0-0;b 0-0;");
        is.due("never", x.never(), A | B);
        x.on(0, 0);
        is.due("never", x.never(), B);
        x.on(1, 0);
        is.due("never", x.never(), 0);
    }

    private static void leastTerms() {
        is.of("Numbers are told as fractions in least terms, the lower one above 0");
        for (int h = 0; h <= 100; h++) {
            int divisor = h == 0 ? 100 : java.math.BigInteger.valueOf(h).gcd(java.math.BigInteger.valueOf(100)).intValue();
            String share = h / divisor + "/" + 100 / divisor;
            String less = -h / divisor + "/" + 100 / divisor;
            ChanceBounds x = is.read("a " + h + "-" + h + ";");
            is.bounds(x, A, ALL, share, share);
            is.differences(x, A, 0, share, share);
            is.differences(x, 0, A, less, less);
        }
        ChanceBounds x = is.read("b 10-10;a if b 50-50;");
        is.bounds(x, A & B, ALL, "1/20", "1/20");
        is.differences(x, A & B, B, "-1/20", "-1/20");
        is.bounds(x, B, A, "1/19", "1/1");
    }

    /** These were worked out by another program, from all sets of limits that meet in a point. */
    private static void greatNumbers() {
        is.of("the least and the greatest chance of anything, of a difference of two, as exact fractions");
        ChanceBounds x = is.read("b&c if c 96-97;c if !a&b|c&a 9-11;c&!a if b|c 9-9;a|b&c if !c 1-1;");
        is.differences(x, 170, 102, "-185876757/188098100", "0/1");
        is.bounds(x, 170, 255, "91/9400", "262633/8027500");
        is.firstRow(x, "0/1 0/1 70488/80275 712/80275 363/80275 0/1 27447/321100 7401/321100");
        ChanceBounds y = is.read("c if !a 51-51;a if a|b 93-93;b&c if a|c 99-99;a|b if !b 1-3;");
        is.bounds(y, 157, 255, "492313/527971", "97357972/100451143");
        is.differences(y, 157, 255, "-35658/527971", "-3093171/100451143");
        ChanceBounds z = is.read("!b if !a 93-93;c&!a if (a|b)&c 89-89;c if !a|b 7-7;a|b if a|c 3-5;");
        is.bounds(z, 212, 255, "27223/198977", "135653/970000");
        is.differences(z, 212, 178, "126/1907", "6998383/100000000");
        is.firstRow(z, "162749/190000 0/1 13251/190000 7/1900 7/100 0/1 0/1 0/1");
        ChanceBounds tiny = is.read("a 1-1;b if a 1-1;c if a&b 1-1;");
        is.bounds(tiny, A & B & C, ALL, "1/1000000", "1/1000000");
        is.bounds(tiny, ALL & ~(A & B & C), ALL, "999999/1000000", "999999/1000000");
    }

    // ---- section 3, promises 13 to 16

    private static void quarrelFewest() {
        is.of("QUARREL: of SAYINGS that are ON the fewest that can't HOLD together; NONE");
        quarrel(new ChanceBounds(), NONE, NONE);
        quarrel(is.read("a 10-20;a 20-30;"), NONE, NONE);
        quarrel(is.read("a 10-20;a 21-30;"), 2, 0b11);
        quarrel(is.read("a&!a 1-1;"), 1, 0b1);
        // One of them alone is fewer than the two ahead of it.
        quarrel(is.read("a 10-20;a 21-30;a&!a 1-1;"), 1, 0b100);
        quarrel(is.read("a 40-40;b&!a 40-40;!a&!b 40-40;c&!c 1-1;"), 1, 0b1000);
        quarrel(is.read("a 40-40;b&!a 40-40;!a&!b 40-40;a 41-41;"), 2, 0b1001);
        quarrel(is.read("a 40-40;b&!a 40-40;!a&!b 40-40;c 41-41;"), 3, 0b0111);
        quarrel(is.read("a 40-100;b&!a 40-100;c&!a&!b 10-100;!a&!b&!c 11-100;"), 4, 0b1111);
        quarrel(is.read("a 40-100;b&!a 40-100;c&!a&!b 10-100;!a&!b&!c 10-100;"), NONE, NONE);
        ChanceBounds x = is.read("a 10-20;a 21-30;b 0-5;b 6-9;");
        quarrel(x, 2, 0b0011);
        x.on(0, 0);
        quarrel(x, 2, 0b1100);
        x.on(3, 0);
        quarrel(x, NONE, NONE);
        x.on(2, 0);
        x.on(1, 0);
        quarrel(x, NONE, NONE);
    }

    private static void quarrelLeastSet() {
        is.of("QUARREL: of several the least set (bits)");
        quarrel(is.read("a 0-10;b 0-10;b 20-100;a 20-100;"), 2, 0b0110);
        quarrel(is.read("a 0-10;b 0-10;a 20-100;b 20-100;"), 2, 0b0101);
        quarrel(is.read("a&!a 1-1;b&!b 1-1;"), 1, 0b01);
        quarrel(is.read("c 1-1;b&!b 1-1;a&!a 1-1;"), 1, 0b010);
        quarrel(is.read("a 1-1;a 2-2;a 3-3;a 4-4;"), 2, 0b0011);
        ChanceBounds x = is.read("a 1-1;a 2-2;a 3-3;a 4-4;");
        x.on(1, 0);
        quarrel(x, 2, 0b0101);
        x.on(2, 0);
        quarrel(x, 2, 0b1001);
        x.on(0, 0);
        quarrel(x, NONE, NONE);
    }

    private static void followsByOthers() {
        is.of("FOLLOWS: a SAYING HOLDS in all ROWS that CAN BE by all others that are ON");
        ChanceBounds x = is.read("a 20-30;a 20-30;");
        is.due("the same twice", x.follows(0), 1);
        is.due("the same twice", x.follows(1), 1);
        x.on(1, 0);
        is.due("the other is not ON", x.follows(0), 0);
        is.due("one that is not ON, by one that is", x.follows(1), 1);
        x.on(0, 0);
        is.due("none is ON", x.follows(1), 0);
        is.due("not by itself", is.read("a 20-30;").follows(0), 0);
        is.due("by none", is.read("a 0-100;").follows(0), 1);
        is.due("by none", is.read("a if b&!b 50-50;").follows(0), 1);
        is.due("by two", is.read("a 50-50;b if a 50-50;a&b 25-25;").follows(2), 1);
        is.due("by three", is.read("a 50-50;b if a 50-50;c if a&b 0-0;a&b&!c 25-25;").follows(3), 1);
        is.of("follows: (1 also where no ROW CAN BE by the others)");
        ChanceBounds y = is.read("a 20-30;b 1-2;b 3-4;");
        is.due("no ROW by the others", y.follows(0), 1);
        is.due("ROWS by the others", y.follows(1), 0);
        is.due("ROWS by the others", y.follows(2), 0);
        y.on(2, 0);
        is.due("ROWS again", y.follows(0), 0);
        ChanceBounds z = is.read("a&!a 1-1;b&!b 1-1;");
        is.due("each by the other", z.follows(0), 1);
        is.due("each by the other", z.follows(1), 1);
        is.due("alone", is.read("a&!a 1-1;").follows(0), 0);
        is.of("FOLLOWS: HOLDS in all ROWS: one WORLD alone is enough against it");
        for (int world = 0; world < 8; world++) {
            is.due("WORLD " + world + " may be sure", is.read(formulaOf(world) + " 0-99;").follows(0), 0);
            is.due("WORLD " + world + " may have none", is.read(formulaOf(world) + " 1-100;").follows(0), 0);
            is.due("the others may have none", is.read("!(" + formulaOf(world) + ") 1-100;").follows(0), 0);
            is.due("always", is.read(formulaOf(world) + " 0-100;").follows(0), 1);
        }
        is.of("follows: BAD");
        is.due("follows(2)", z.follows(2), BAD);
        is.due("follows(-1)", z.follows(-1), BAD);
        is.due("follows(0)", new ChanceBounds().follows(0), BAD);
    }

    private static void followsAtTheEdge() {
        is.of("FOLLOWS: HOLDS in all ROWS: FROM and TO themselves are come to");
        ChanceBounds x = is.read("a 20-30;a&b 0-30;a|b 20-100;");
        is.due("TO 30", x.follows(1), 1);
        is.due("FROM 20", x.follows(2), 1);
        x.move(1, 1, 29);
        is.due("TO 29", x.follows(1), 0);
        x.move(1, 1, 30);
        is.due("TO 30 again", x.follows(1), 1);
        x.move(2, 0, 21);
        is.due("FROM 21", x.follows(2), 0);
        ChanceBounds y = is.read("a if b 20-30;b 50-50;a&b 10-15;");
        is.due("10 to 15", y.follows(2), 1);
        y.move(2, 0, 11);
        is.due("11 to 15", y.follows(2), 0);
        y.move(2, 0, 10);
        y.move(2, 1, 14);
        is.due("10 to 14", y.follows(2), 0);
    }

    private static void neededFewest() {
        is.of("NEEDED: of SAYINGS that are ON the fewest by which the BOUNDS .. are the same as by all that are ON");
        ChanceBounds x = is.read("a 20-100;a 0-30;a 20-30;b 1-2;");
        needed(x, A, ALL, 0b0100);
        x.on(2, 0);
        needed(x, A, ALL, 0b0011);
        x.on(0, 0);
        needed(x, A, ALL, 0b0010);
        x.on(1, 0);
        needed(x, A, ALL, 0);
        needed(x, B, ALL, 0b1000);
        needed(new ChanceBounds(), A, ALL, 0);
        needed(is.read("a 0-100;"), A, ALL, 0);
        needed(is.read("a 1-100;"), A, ALL, 1);
        needed(is.read("a 0-99;"), A, ALL, 1);
        needed(is.read("a 10-20;"), B, ALL, 0);
        needed(is.read("a 10-20;"), B & ~A, ALL, 1);
        needed(is.read("a 50-50;b if a 50-50;c if a&b 50-50;c 0-100;"), A & B & C, ALL, 0b0111);
        needed(is.read("a 10-100;b&!a 20-100;c&!a&!b 30-100;!a&!b&!c 15-100;"), A, ALL, 0b1111);
        is.of("NEEDED: of several the least set");
        needed(is.read("a 20-30;a 20-30;a 20-30;a 20-30;"), A, ALL, 0b0001);
        needed(is.read("b 1-2;a 20-30;a 20-30;b 1-2;"), A, ALL, 0b0010);
        needed(is.read("a 20-100;a 0-30;a 20-40;a 10-30;"), A, ALL, 0b0011);
        needed(is.read("a 20-100;a 20-40;a 0-30;a 10-30;"), A, ALL, 0b0101);
    }

    private static void neededNone() {
        is.of("NEEDED: (NONE by NONE is the same, too)");
        needed(is.read("a 1-2;b 3-4;"), A, 0, 0);
        needed(is.read("a 1-2;a 3-4;"), A, 0, 0);
        needed(is.read("a 1-2;a 3-4;"), A, ALL, 0b11);
        needed(is.read("b 5-6;a 1-2;a 3-4;a 5-6;"), C, ALL, 0b0110);
        needed(is.read("b 5-6;a 0-0;c 5-6;"), B, A, 0b010);
        needed(is.read("b 5-6;a 0-0;c&!c 5-6;"), B, A, 0b010);
        needed(is.read("b 5-6;a 0-0;c&!c 5-6;"), B, C, 0b100);
        needed(is.read("a if b 0-0;a if b 100-100;"), C, B, 0b11);
    }

    private static void givesOfAll() {
        is.of("GIVES WAY: the least number of hundredths by which .. of all SAYINGS that are ON .. there are ROWS that CAN BE");
        gives(new ChanceBounds(), 0);
        gives(is.read("a 10-20;"), 0, 0);
        gives(is.read("a 10-20;a 20-30;"), 0, 0, 0);
        gives(is.read("a 10-20;a 21-30;"), 1, 1, 1);
        gives(is.read("a 10-20;a 22-30;"), 1, 2, 2);
        gives(is.read("a 10-20;a 23-30;"), 2, 3, 3);
        gives(is.read("a 0-0;a 100-100;"), 50, 100, 100);
        gives(is.read("a 40-40;b&!a 40-40;!a&!b 40-40;"), 7, 20, 20, 20);
        ChanceBounds x = is.read("a 10-20;a 23-30;");
        x.on(0, 0);
        gives(x, 0, NONE, 0);
        x.on(1, 0);
        gives(x, 0, NONE, NONE);
        is.due("FROM stays", x.saying(1, 2), 23);
        is.due("TO stays", x.saying(0, 3), 20);
    }

    private static void givesOfOne() {
        is.of("GIVES WAY: or of one of these alone .. NONE: by none up to 100");
        gives(is.read("a 10-20;a 23-30;b 1-2;"), 2, 3, 3, NONE);
        gives(is.read("a 10-20;a 23-30;b&!b 1-2;"), 2, NONE, NONE, NONE);
        gives(is.read("a&!a 100-100;b&!b 1-1;"), 100, NONE, NONE);
        is.of("gives: (NONE also, if it is not ON)");
        ChanceBounds x = is.read("a 10-20;b 1-2;");
        gives(x, 0, 0, 0);
        x.on(1, 0);
        gives(x, 0, 0, NONE);
        is.of("gives: BAD");
        is.due("gives(-2)", x.gives(-2), BAD);
        is.due("gives(2)", x.gives(2), BAD);
        is.due("gives(0)", new ChanceBounds().gives(0), BAD);
    }

    private static void givesWithinLimits() {
        is.of("GIVES WAY: FROM less so many (0 at least) and TO more (100 at most)");
        gives(is.read("a&!a 100-100;"), 100, 100);
        gives(is.read("a|!a 0-0;"), 100, 100);
        gives(is.read("a&!a 1-1;"), 1, 1);
        gives(is.read("a|!a 99-99;"), 1, 1);
        // One side is at its limit long before the other one is far enough.
        gives(is.read("a 1-2;a 95-99;"), 47, 93, 93);
        gives(is.read("a 95-99;a 1-2;"), 47, 93, 93);
        gives(is.read("a 5-5;a 90-90;b 100-100;"), 43, 85, 85, NONE);
        gives(is.read("a if b 0-0;a if b 100-100;b 100-100;"), 50, 100, 100, 100);
        gives(is.read("a if b 0-0;a if b 100-100;b 1-100;"), 1, 100, 100, 1);
    }
}
