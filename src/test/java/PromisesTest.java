/** A run or more for each promise of the document: ordinary calls, its edges, wrong numbers. */
public final class PromisesTest {
    private static final int BAD = -1;
    private static final int FULL = -3;
    private static final int NONE = -9;
    private static final long NO = -1000000000000000000L;
    private static final int A = 170, B = 204, C = 240, ALL = 255;
    private static final int MIN = Integer.MIN_VALUE, MAX = Integer.MAX_VALUE;

    private static int wrong = 0;
    private static int asked = 0;

    public static void main(String[] args) {
        newObject();
        type();
        clear();
        read();
        readAnew();
        readFormulas();
        readFaults();
        readLimits();
        saying();
        on();
        move();
        could();
        bound();
        differ();
        first();
        never();
        quarrel();
        follows();
        needed();
        gives();
        tell();
        check();
        pull();
        count();
        System.out.println(asked + " answers, " + wrong + " not as due");
        if (wrong != 0) {
            System.exit(1);
        }
    }

    private static void due(String what, long got, long want) {
        asked++;
        if (got != want) {
            wrong++;
            System.out.println(what + ": answered " + got + ", due is " + want);
        }
    }

    private static void typeAll(ChanceBounds x, String text) {
        for (int at = 0; at < text.length(); at++) {
            x.type(text.charAt(at), 1);
        }
    }

    /** A new object that has read a text without fault. */
    private static ChanceBounds of(String text, int sayings) {
        ChanceBounds x = new ChanceBounds();
        typeAll(x, text);
        due("read " + text, x.read(), sayings);
        return x;
    }

    private static void fault(String text, int place) {
        ChanceBounds x = of("b if c 10-20;", 1);
        x.on(0, 0);
        typeAll(x, text);
        due("read " + text, x.read(), -10 - place);
        due("text stays: " + text, x.count(2), text.length());
        due("sayings stay: " + text, x.count(0), 1);
        due("X stays: " + text, x.saying(0, 0), B);
        due("Y stays: " + text, x.saying(0, 1), C);
        due("FROM stays: " + text, x.saying(0, 2), 10);
        due("TO stays: " + text, x.saying(0, 3), 20);
        due("OFF stays: " + text, x.saying(0, 4), 0);
    }

    private static void fraction(String what, long up, long low, long wantUp, long wantLow) {
        due(what + " upper", up, wantUp);
        due(what + " lower", low, wantLow);
    }

    private static void bounds(ChanceBounds x, int thing, int other, long... want) {
        String what = "bound(" + thing + ", " + other + ")";
        fraction(what + " least", x.bound(thing, other, 0, 0), x.bound(thing, other, 0, 1), want[0], want[1]);
        fraction(what + " greatest", x.bound(thing, other, 1, 0), x.bound(thing, other, 1, 1), want[2], want[3]);
    }

    private static void differences(ChanceBounds x, int thing, int other, long... want) {
        String what = "differ(" + thing + ", " + other + ")";
        fraction(what + " least", x.differ(thing, other, 0, 0), x.differ(thing, other, 0, 1), want[0], want[1]);
        fraction(what + " greatest", x.differ(thing, other, 1, 0), x.differ(thing, other, 1, 1), want[2], want[3]);
    }

    private static void firstRow(ChanceBounds x, long lower, long... uppers) {
        for (int world = 0; world < 8; world++) {
            long divisor = uppers[world] == 0 ? lower
                    : java.math.BigInteger.valueOf(lower).gcd(java.math.BigInteger.valueOf(uppers[world])).longValue();
            fraction("first(" + world + ")", x.first(world, 0), x.first(world, 1), uppers[world] / divisor, lower / divisor);
        }
    }

    private static void tellAll(ChanceBounds x, int... thousandths) {
        for (int world = 0; world < 8; world++) {
            x.tell(world, thousandths[world]);
        }
    }

    // ---- promise 1

    private static void newObject() {
        ChanceBounds x = new ChanceBounds();
        due("new: sayings", x.count(0), 0);
        due("new: on", x.count(1), 0);
        due("new: bytes", x.count(2), 0);
        due("new: thousandths", x.count(3), 1000);
        due("new: saying", x.saying(0, 0), BAD);
        due("new: could", x.could(), 1);
        due("new: never", x.never(), 0);
        due("new: quarrel", x.quarrel(0), NONE);
        due("new: needed", x.needed(A, ALL, 0), 0);
        due("new: gives", x.gives(-1), 0);
        due("new: gives(0)", x.gives(0), BAD);
        due("new: check", x.check(), 0);
        firstRow(x, 1, 0, 0, 0, 0, 0, 0, 0, 1);
        bounds(x, A, ALL, 0, 1, 1, 1);
        differences(x, A, B, -1, 1, 1, 1);
        ChanceBounds y = of("a 1-2;", 1);
        due("objects share nothing", new ChanceBounds().count(0), 0);
        due("objects share nothing", y.count(0), 1);
        due("BAD", ChanceBounds.BAD, BAD);
        due("FULL", ChanceBounds.FULL, FULL);
        due("NONE", ChanceBounds.NONE, NONE);
        due("NO", ChanceBounds.NO, NO);
    }

    // ---- promise 2

    private static void type() {
        ChanceBounds x = new ChanceBounds();
        for (int n : new int[] {0, 9, -1, MIN, MAX}) {
            due("type of " + n, x.type(97, n), BAD);
        }
        due("nothing came", x.count(2), 0);
        due("highest first", x.type(0x62_69_66_61L, 4), 4);
        due("higher bytes do not count", x.type(0x7fff_ffff_2038_2d39L, 4), 8);
        due("one byte", x.type(-256L + ';', 1), 9);
        due("bifa is a wrong word", x.read(), -10);
        x.clear();
        due("b", x.type('b', 1), 1);
        due(" if c 8-", x.type(0x2069_6620_6320_382dL, 8), 9);
        due("9;", x.type(0xffff_ffff_ffff_0000L | '9' << 8 | ';', 2), 11);
        due("read", x.read(), 1);
        due("X", x.saying(0, 0), B);
        due("Y", x.saying(0, 1), C);
        due("FROM", x.saying(0, 2), 8);
        due("TO", x.saying(0, 3), 9);
        for (int n = 1; n <= 24; n++) {
            due("eight bytes", x.type(0x2020_2020_2020_2020L, 8), 8 * n);
        }
        due("seven bytes", x.type(0x2020_2020_2020_20L, 7), 199);
        due("two too many", x.type(0x2020, 2), FULL);
        due("BAD ahead of FULL", x.type(0, 9), BAD);
        due("BAD ahead of FULL", x.type(0, 0), BAD);
        due("the last one", x.type(0x20, 1), 200);
        due("one too many", x.type(0x20, 1), FULL);
        due("200 bytes", x.count(2), 200);
        due("200 blanks", x.read(), 0);
    }

    // ---- promise 3

    private static void clear() {
        ChanceBounds x = of("a 1-2;", 1);
        due("clear none", x.clear(), 0);
        typeAll(x, "b 3-4;");
        due("clear", x.clear(), 6);
        due("clear again", x.clear(), 0);
        due("sayings stay", x.count(0), 1);
        due("read none", x.read(), 0);
        due("no sayings then", x.count(0), 0);
    }

    // ---- promise 4

    private static void read() {
        ChanceBounds x = of("  a  if b&c 0 - 100 ;c7-7;", 2);
        due("text is empty", x.count(2), 0);
        due("X", x.saying(0, 0), A);
        due("Y", x.saying(0, 1), B & C);
        due("FROM", x.saying(0, 2), 0);
        due("TO", x.saying(0, 3), 100);
        due("X", x.saying(1, 0), C);
        due("Y is all", x.saying(1, 1), ALL);
        due("FROM", x.saying(1, 2), 7);
        due("TO", x.saying(1, 3), 7);
        x.on(0, 0);
        typeAll(x, "b 1-2;a 3-4;c 5-6;");
        due("read anew", x.read(), 3);
        due("X anew", x.saying(0, 0), B);
        due("all are ON", x.count(1), 3);
        due("ON anew", x.saying(0, 4), 1);
        typeAll(x, "c 9-9;");
        due("fewer", x.read(), 1);
        due("the others are gone", x.saying(1, 0), BAD);
        typeAll(x, "   ");
        due("blanks are no sayings", x.read(), 0);
        due("none", x.count(0), 0);
        of("a 1-2;a 1-2;a 1-2;a 1-2;   ", 4);
    }

    /** What was asked of earlier sayings must not be answered of those that are read anew. */
    private static void readAnew() {
        ChanceBounds x = of("a if c 30-40;b 0-100;", 2);
        bounds(x, A, C, 3, 10, 2, 5);
        readInstead(x, "b if c 30-40;b 0-100;");
        bounds(x, A, C, 0, 1, 1, 1);
        bounds(x, B, C, 3, 10, 2, 5);
        readInstead(x, "b if a 30-40;b 0-100;");
        bounds(x, B, C, 0, 1, 1, 1);
        bounds(x, B, A, 3, 10, 2, 5);
        readInstead(x, "b if a 20-40;b 0-100;");
        bounds(x, B, A, 1, 5, 2, 5);
        readInstead(x, "b if a 20-50;b 0-100;");
        bounds(x, B, A, 1, 5, 1, 2);
        readInstead(x, "b if a 20-50;b 0-10;");
        bounds(x, B, ALL, 0, 1, 1, 10);
        readInstead(x, "b if a 20-50;c 0-10;");
        bounds(x, B, ALL, 0, 1, 1, 1);
        readInstead(x, "b if a 20-50;");
        bounds(x, C, ALL, 0, 1, 1, 1);
        readInstead(x, "");
        bounds(x, B, A, 0, 1, 1, 1);
    }

    private static void readInstead(ChanceBounds x, String text) {
        typeAll(x, text);
        due("read instead " + text, x.read(), text.replaceAll("[^;]", "").length());
    }

    private static void formula(String formula, int worlds) {
        due(formula, of(formula + " 0-1;", 1).saying(0, 0), worlds);
        due("if " + formula, of("a if " + formula + " 0-1;", 1).saying(0, 1), worlds);
    }

    private static void readFormulas() {
        formula("a", A);
        formula("b", B);
        formula("c", C);
        formula("!a", ALL & ~A);
        formula("!!a", A);
        formula("a&b", A & B);
        formula("a|b", A | B);
        formula("a|b&c", A | B & C);
        formula("a&b|c", A & B | C);
        formula("(a|b)&c", (A | B) & C);
        formula("!a&b", ~A & B);
        formula("!(a&b)", ALL & ~(A & B));
        formula("!a|b", ALL & (~A | B));
        formula("a&!b", A & ~B);
        formula("a&!a", 0);
        formula("a|!a", ALL);
        formula("((((((a))))))", A);
        formula("!!!!!!a", A);
        formula("!(!(!(a)))", ALL & ~A);
        formula("(a)&(b)|(!c)", A & B | ALL & ~C);
        formula(" ! ( a | b ) & c ", ALL & ~(A | B) & C);
    }

    private static void readFaults() {
        fault("A 1-2;", 0);
        fault(" d 1-2;", 1);
        fault("ab 1-2;", 0);
        fault("a iff b 1-2;", 2);
        fault("a i b 1-2;", 2);
        fault("aif b 1-2;", 0);
        fault("az 1-2;", 0);
        fault("za 1-2;", 0);
        fault("aa 1-2;", 0);
        fault("a ifb 1-2;", 2);
        fault("if a 1-2;", 0);
        fault("a if b if c 1-2;", 7);
        fault("a b 1-2;", 2);
        fault("a&|b 1-2;", 2);
        fault("a& 1-2;", 3);
        fault("!1-2;", 1);
        fault("() 1-2;", 1);
        fault("a) 1-2;", 1);
        fault("(a 1-2;", 3);
        fault("(a if b) 1-2;", 3);
        fault("a!b 1-2;", 1);
        fault("a(b) 1-2;", 1);
        fault("1-2;", 0);
        fault(";", 0);
        fault("a;", 1);
        fault("a -2;", 2);
        fault("a 1 2;", 4);
        fault("a 1--2;", 4);
        fault("a 1-;", 4);
        fault("a 1-2 3;", 6);
        fault("a 1-2;;", 6);
        fault("a 1-2 b 1-2;", 6);
        fault("a 101-102;", 2);
        fault("a 999-5;", 2);
        fault("a 1000-5;", 2);
        fault("a 1-101;", 4);
        fault("a 01-2;", 2);
        fault("a 00-2;", 2);
        fault("a 1-02;", 4);
        fault("a 4294967297-50;", 2);
        fault("a 2-1;", 4);
        fault("a 100-99;", 6);
        fault("a 1-2;b 3-2;", 10);
        fault("a\t1-2;", 1);
        fault("a 1-2;\n", 6);
        fault("a \u00e9-2;", 2);
        fault("a 1-2;\u0000", 6);
        fault("a 1-2;\u00ff", 6);
        fault("a", 1);
        fault("a  ", 3);
        fault("a if", 4);
        fault("(a", 2);
        fault("!", 1);
        fault("a&", 2);
        fault("a 1", 3);
        fault("a 1-", 4);
        fault("a 1-2", 5);
        fault("a 1-2 ", 6);
        fault("a 1-2;b", 7);
    }

    private static void readLimits() {
        fault("a 1-2;a 1-2;a 1-2;a 1-2;a 1-2;", 24);
        fault("a 1-2;a 1-2;a 1-2;a 1-2; ;", 25);
        fault("a 1-2;a 1-2;a 1-2;a 1-2;  ?", 26);
        String twelve = "a&b&c&a&b&c&a&b&c&a&b&c";
        formula(twelve, A & B & C);
        formula("(a|b)&c|(a|b)&c|(a|b)&c|(a|b)&c", (A | B) & C);
        fault(twelve + "&a 1-2;", 24);
        fault("(" + twelve + ")|a 1-2;", 26);
        fault("a if " + twelve + "&a 1-2;", 29);
        due("twelve in each", of(twelve + " if " + twelve + " 1-2;" + twelve + " 1-2;", 2).saying(0, 1), A & B & C);
        fault("!!!!!!!a 1-2;", 6);
        fault("(((((((a))))))) 1-2;", 6);
        fault("!(!(!(!a))) 1-2;", 6);
        fault("((((((!a)))))) 1-2;", 6);
        formula("((((((a)))))) & ((((((b))))))", A & B);
        formula("!!!!!!a|!!!!!!b", A | B);
        formula("!(!(!(a)|!!b)|!!!!c)", ALL & ~((ALL & ~((ALL & ~A) | B)) | C));
        fault("((((((a&!b)))))) 1-2;", 8);
        formula("(((((a&!b)))))", A & ~B);
    }

    // ---- promise 5

    private static void saying() {
        ChanceBounds x = of("a|b 10-20;c if !a 30-40;", 2);
        int[] want = {C, ALL & ~A, 30, 40, 1};
        for (int what = 0; what < 5; what++) {
            due("saying(1, " + what + ")", x.saying(1, what), want[what]);
        }
        due("X is whole, not only in Y", of("a if !a 0-1;", 1).saying(0, 0), A);
        for (int i : new int[] {-1, 2, 4, MIN, MAX}) {
            due("no saying " + i, x.saying(i, 0), BAD);
        }
        for (int what : new int[] {-1, 5, MIN, MAX}) {
            due("saying's " + what, x.saying(0, what), BAD);
        }
    }

    // ---- promise 6

    private static void on() {
        ChanceBounds x = of("a 10-20;a 30-40;", 2);
        due("both cannot", x.could(), 0);
        due("off", x.on(1, 0), 1);
        due("it is off", x.saying(1, 4), 0);
        due("one can", x.could(), 1);
        due("off again", x.on(1, 0), 0);
        due("on", x.on(1, 1), 0);
        due("on again", x.on(1, 1), 1);
        due("both cannot again", x.could(), 0);
        for (int is : new int[] {-1, 2, MIN, MAX}) {
            due("is = " + is, x.on(0, is), BAD);
        }
        for (int i : new int[] {-1, 2, MIN, MAX}) {
            due("on of " + i, x.on(i, 0), BAD);
        }
        due("nothing changed", x.count(1), 2);
    }

    // ---- promise 7

    private static void move() {
        ChanceBounds x = of("a 30-40;b 0-100;", 2);
        due("FROM", x.move(0, 0, 35), 30);
        due("FROM is TO", x.move(0, 0, 40), 35);
        due("FROM above TO", x.move(0, 0, 41), BAD);
        due("TO below FROM", x.move(0, 1, 39), BAD);
        due("TO", x.move(0, 1, 100), 40);
        due("TO is FROM", x.move(0, 1, 40), 100);
        due("FROM 0", x.move(0, 0, 0), 40);
        due("TO 0", x.move(0, 1, 0), 40);
        due("FROM is", x.saying(0, 2), 0);
        due("TO is", x.saying(0, 3), 0);
        due("the other stays", x.saying(1, 3), 100);
        for (int v : new int[] {-1, 101, MIN, MAX}) {
            due("move to " + v, x.move(1, 0, v), BAD);
            due("move to " + v, x.move(1, 1, v), BAD);
        }
        for (int what : new int[] {-1, 2, MIN, MAX}) {
            due("move what " + what, x.move(1, what, 50), BAD);
        }
        for (int i : new int[] {-1, 2, MIN, MAX}) {
            due("move of " + i, x.move(i, 0, 50), BAD);
        }
        bounds(x, A, ALL, 0, 1, 0, 1);
        x.move(0, 1, 25);
        bounds(x, A, ALL, 0, 1, 1, 4);
        x.on(0, 0);
        due("one that is off", x.move(0, 1, 50), 25);
        bounds(x, A, ALL, 0, 1, 1, 1);
        x.on(0, 1);
        bounds(x, A, ALL, 0, 1, 1, 2);
    }

    // ---- promise 8

    private static void could() {
        due("one", of("a 50-60;", 1).could(), 1);
        due("they meet", of("a 50-60;a 60-70;", 2).could(), 1);
        due("they don't", of("a 50-60;a 61-70;", 2).could(), 0);
        due("nothing has a chance", of("a&!a 1-1;", 1).could(), 0);
        due("nothing has none", of("a&!a 0-0;", 1).could(), 1);
        due("all has less", of("a|!a 0-99;", 1).could(), 0);
        due("if that has no chance", of("a&!a if b 1-1;", 1).could(), 1);
        due("and must have one", of("a&!a if b 1-1;b 1-100;", 2).could(), 0);
        due("if nothing", of("a if b&!b 1-1;", 1).could(), 1);
        due("three of a sum", of("a 33-33;b&!a 33-33;!a&!b 33-33;", 3).could(), 0);
        due("three of a sum", of("a 33-33;b&!a 33-33;!a&!b 34-34;", 3).could(), 1);
        due("a ring", of("a if b 100-100;b if c 100-100;!a if c 1-100;c 1-100;", 4).could(), 0);
    }

    // ---- promise 9

    private static void bound() {
        ChanceBounds x = of("a 30-40;b if a 50-50;", 2);
        bounds(x, A, ALL, 3, 10, 2, 5);
        bounds(x, A & B, ALL, 3, 20, 1, 5);
        bounds(x, B, ALL, 3, 20, 17, 20);
        bounds(x, B, A, 1, 2, 1, 2);
        bounds(x, A, B, 3, 17, 1, 1);
        bounds(x, 0, ALL, 0, 1, 0, 1);
        bounds(x, ALL, A, 1, 1, 1, 1);
        bounds(x, A, 0, NO, NO, NO, NO);
        ChanceBounds odd = of("a if b 33-67;b if c 29-71;c if a 31-97;a 13-91;", 4);
        bounds(odd, A, ALL, 13, 100, 91, 100);
        ChanceBounds small = of("b 1-1;a if b 7-7;c if a&b 3-3;", 3);
        bounds(small, A & B & C, ALL, 21, 1000000, 21, 1000000);
        bounds(of("a 0-0;", 1), B, A, NO, NO, NO, NO);
        bounds(of("a 0-50;", 1), B, A, 0, 1, 1, 1);
        bounds(of("a 1-2;a 3-4;", 2), B, ALL, NO, NO, NO, NO);
        int[] off = {-1, 256, MIN, MAX};
        for (int v : off) {
            due("bound thing " + v, x.bound(v, ALL, 0, 0), NO);
            due("bound other " + v, x.bound(A, v, 0, 0), NO);
        }
        for (int v : new int[] {-1, 2, MIN, MAX}) {
            due("bound which " + v, x.bound(A, ALL, v, 0), NO);
            due("bound what " + v, x.bound(A, ALL, 0, v), NO);
        }
    }

    // ---- promise 10

    private static void differ() {
        ChanceBounds x = of("a 30-40;b if a 50-50;", 2);
        differences(x, A, B, -11, 20, 1, 5);
        differences(x, B, A, -1, 5, 11, 20);
        differences(x, A, 0, 3, 10, 2, 5);
        differences(x, 0, A, -2, 5, -3, 10);
        differences(x, A, A, 0, 1, 0, 1);
        differences(x, 0, 0, 0, 1, 0, 1);
        differences(of("a 0-0;", 1), B, A, 0, 1, 1, 1);
        differences(of("a 1-2;a 3-4;", 2), B, A, NO, NO, NO, NO);
        for (int v : new int[] {-1, 256, MIN, MAX}) {
            due("differ thing " + v, x.differ(v, ALL, 0, 0), NO);
            due("differ other " + v, x.differ(A, v, 0, 0), NO);
        }
        for (int v : new int[] {-1, 2, MIN, MAX}) {
            due("differ which " + v, x.differ(A, ALL, v, 0), NO);
            due("differ what " + v, x.differ(A, ALL, 0, v), NO);
        }
    }

    // ---- promise 11

    private static void first() {
        firstRow(of("c 25-40;", 1), 5, 0, 0, 0, 3, 0, 0, 0, 2);
        firstRow(of("a 30-40;b if a 50-50;", 2), 20, 0, 0, 0, 0, 0, 3, 14, 3);
        firstRow(of("!a&!b&!c 10-20;a&b&c 0-50;", 2), 10, 1, 0, 0, 0, 0, 0, 4, 5);
        firstRow(of("a if b 33-33;b 50-50;", 2), 200, 0, 0, 0, 0, 0, 100, 67, 33);
        ChanceBounds x = of("a 1-2;a 3-4;", 2);
        due("first of none", x.first(7, 0), NO);
        due("first of none", x.first(7, 1), NO);
        x.on(0, 0);
        for (int world : new int[] {-1, 8, MIN, MAX}) {
            due("first world " + world, x.first(world, 0), NO);
        }
        for (int what : new int[] {-1, 2, MIN, MAX}) {
            due("first what " + what, x.first(0, what), NO);
        }
    }

    // ---- promise 12

    private static void never() {
        due("a never", of("a 0-0;", 1).never(), A);
        due("a always", of("a 100-100;", 1).never(), ALL & ~A);
        due("a and b never", of("a&b 0-0;", 1).never(), A & B);
        due("b if a never", of("b if a 0-0;", 1).never(), A & B);
        due("c if nothing", of("c if a&!a 0-0;", 1).never(), 0);
        due("a small one is not never", of("a 0-1;", 1).never(), 0);
        due("by two", of("a if b 100-100;a if b 0-0;", 2).never(), B);
        due("all", of("a 0-0;!a 0-0;", 2).never(), ALL);
        ChanceBounds x = of("a 0-0;b 0-0;", 2);
        due("a or b", x.never(), A | B);
        x.on(0, 0);
        due("b alone", x.never(), B);
    }

    // ---- promise 13

    private static void quarrel() {
        ChanceBounds x = of("a 10-20;b 0-100;a 30-40;a 50-60;", 4);
        due("two", x.quarrel(0), 2);
        due("the least two", x.quarrel(1), 0b0101);
        x.on(0, 0);
        due("two others", x.quarrel(1), 0b1100);
        x.on(2, 0);
        due("none", x.quarrel(0), NONE);
        due("none", x.quarrel(1), NONE);
        ChanceBounds y = of("a 10-20;a 30-40;b|!b 0-99;", 3);
        due("one alone", y.quarrel(0), 1);
        due("one alone", y.quarrel(1), 0b100);
        ChanceBounds z = of("a&!a 1-2;b 1-2;a&!a 3-4;", 3);
        due("the least of one", z.quarrel(1), 0b001);
        ChanceBounds four = of("a 40-100;b&!a 40-100;c&!a&!b 10-100;!a&!b&!c 11-100;", 4);
        due("all four", four.quarrel(0), 4);
        due("all four", four.quarrel(1), 0b1111);
        for (int what : new int[] {-1, 2, MIN, MAX}) {
            due("quarrel what " + what, x.quarrel(what), BAD);
        }
    }

    // ---- promise 14

    private static void follows() {
        ChanceBounds x = of("a 50-60;a&b 0-60;a 0-49;", 3);
        due("no row by the others", x.follows(1), 1);
        x.on(2, 0);
        due("a or less", x.follows(1), 1);
        due("not from less", x.follows(0), 0);
        due("one that is off, too", x.follows(2), 0);
        due("move", x.move(1, 1, 59), 60);
        due("a little too much", x.follows(1), 0);
        x.on(1, 0);
        due("itself is no help", x.follows(0), 0);
        due("always", of("a|!a 100-100;", 1).follows(0), 1);
        due("a wide one", of("a 0-100;", 1).follows(0), 1);
        due("if it has no chance", of("b if a 1-2;a 0-0;", 2).follows(0), 1);
        ChanceBounds twice = of("a 20-30;a 20-30;", 2);
        due("the same twice", twice.follows(0), 1);
        due("the same twice", twice.follows(1), 1);
        for (int i : new int[] {-1, 3, MIN, MAX}) {
            due("follows " + i, x.follows(i), BAD);
        }
    }

    // ---- promise 15

    private static void needed() {
        ChanceBounds x = of("a 20-30;a 20-30;b if a 50-50;", 3);
        due("one of the same", x.needed(A, ALL, 0), 1);
        due("the least one", x.needed(A, ALL, 1), 0b001);
        due("two", x.needed(A & B, ALL, 0), 2);
        due("the least two", x.needed(A & B, ALL, 1), 0b101);
        due("b if a", x.needed(B, A, 1), 0b100);
        due("of c none", x.needed(C, ALL, 0), 0);
        due("of c none", x.needed(C, ALL, 1), 0);
        due("none by none", x.needed(C, 0, 1), 0);
        x.on(0, 0);
        due("of those that are on", x.needed(A, ALL, 1), 0b010);
        ChanceBounds cannot = of("c 1-2;a 10-20;a 30-40;a 50-60;", 4);
        due("none can be", cannot.needed(B, ALL, 0), 2);
        due("none can be", cannot.needed(B, ALL, 1), 0b0110);
        ChanceBounds no = of("b 1-2;a 0-0;!a 50-100;", 3);
        due("no chance of the other", no.needed(B, A, 1), 0b010);
        ChanceBounds both = of("a 10-100;a 0-90;", 2);
        due("the least and the greatest", both.needed(A, ALL, 1), 0b11);
        for (int v : new int[] {-1, 256, MIN, MAX}) {
            due("needed thing " + v, x.needed(v, ALL, 0), BAD);
            due("needed other " + v, x.needed(A, v, 0), BAD);
        }
        for (int what : new int[] {-1, 2, MIN, MAX}) {
            due("needed what " + what, x.needed(A, ALL, what), BAD);
        }
    }

    // ---- promise 16

    private static void gives() {
        ChanceBounds x = of("a 10-20;a 40-50;", 2);
        due("both", x.gives(-1), 10);
        due("one", x.gives(0), 20);
        due("the other", x.gives(1), 20);
        x.move(1, 0, 41);
        due("half of 21", x.gives(-1), 11);
        due("21", x.gives(0), 21);
        x.on(0, 0);
        due("it is not ON", x.gives(0), NONE);
        due("one is left", x.gives(1), 0);
        due("one is left", x.gives(-1), 0);
        x.on(1, 0);
        due("none are left", x.gives(-1), 0);
        ChanceBounds three = of("a 10-20;a 30-40;b 1-2;", 3);
        due("not by this one", three.gives(2), NONE);
        due("by all", three.gives(-1), 5);
        due("nothing must have all", of("a&!a 100-100;", 1).gives(0), 100);
        due("nothing must have all", of("a&!a 100-100;", 1).gives(-1), 100);
        due("all must have nothing", of("a|!a 0-0;", 1).gives(0), 100);
        due("no more than 0 and 100", of("a 0-0;a 100-100;", 2).gives(0), 100);
        due("half each", of("a 0-0;a 100-100;", 2).gives(-1), 50);
        for (int i : new int[] {-2, 3, MIN, MAX}) {
            due("gives " + i, three.gives(i), BAD);
        }
        due("sayings stay", three.saying(0, 2), 10);
        due("sayings stay", three.saying(0, 3), 20);
        due("still none can be", three.could(), 0);
    }

    // ---- promise 17

    private static void tell() {
        ChanceBounds x = new ChanceBounds();
        due("tell", x.tell(0, 0), 125);
        due("tell", x.tell(0, 1000), 0);
        due("tell", x.tell(0, 7), 1000);
        due("tell", x.tell(7, 250), 125);
        for (int world : new int[] {-1, 8, MIN, MAX}) {
            due("tell world " + world, x.tell(world, 1), BAD);
        }
        for (int v : new int[] {-1, 1001, MIN, MAX}) {
            due("tell " + v, x.tell(1, v), BAD);
        }
        due("nothing changed", x.tell(1, 125), 125);
        due("together", x.count(3), 7 + 6 * 125 + 250);
        typeAll(x, "a 1-2;");
        x.read();
        due("reading leaves it", x.tell(0, 0), 7);
    }

    // ---- promise 18

    private static void check() {
        ChanceBounds x = of("a 50-50;b if a 40-60;c 51-100;a&b&c 0-12;", 4);
        due("two don't hold", x.check(), 2);
        x.on(2, 0);
        due("only those that are on", x.check(), 1);
        x.move(3, 1, 13);
        due("125 is below 13 hundredths", x.check(), 0);
        x.tell(0, 124);
        due("999", x.check(), -1);
        x.tell(1, 126);
        due("1000 again", x.check(), 1);
        tellAll(x, 0, 0, 0, 0, 1000, 0, 0, 0);
        x.move(0, 0, 0);
        due("if that has no chance", x.check(), 0);
        tellAll(x, 700, 120, 0, 180, 0, 0, 0, 0);
        due("60 of 100", x.check(), 0);
        tellAll(x, 700, 119, 0, 181, 0, 0, 0, 0);
        due("more than 60 of 100", x.check(), 1);
        tellAll(x, 700, 180, 0, 120, 0, 0, 0, 0);
        due("40 of 100", x.check(), 0);
        tellAll(x, 700, 181, 0, 119, 0, 0, 0, 0);
        due("less than 40 of 100", x.check(), 1);
    }

    // ---- promise 19

    private static void pull() {
        ChanceBounds x = new ChanceBounds();
        fraction("one of four", x.pull(A, 1, 0), x.pull(A, 1, 1), 1, 4);
        fraction("out of it", x.pull(A, 0, 0), x.pull(A, 0, 1), 0, 1);
        fraction("of all", x.pull(ALL, 7, 0), x.pull(ALL, 7, 1), 1, 8);
        fraction("for sure", x.pull(16, 4, 0), x.pull(16, 4, 1), 1, 1);
        fraction("of nothing", x.pull(0, 0, 0), x.pull(0, 0, 1), NO, NO);
        tellAll(x, 100, 200, 0, 350, 350, 0, 0, 0);
        fraction("least terms", x.pull(0b1010, 1, 0), x.pull(0b1010, 1, 1), 4, 11);
        fraction("no chance in it", x.pull(0b111, 2, 0), x.pull(0b111, 2, 1), 0, 1);
        fraction("no chance at all", x.pull(0b11100100, 2, 0), x.pull(0b11100100, 2, 1), NO, NO);
        x.tell(7, 1);
        fraction("1001", x.pull(ALL, 0, 0), x.pull(ALL, 0, 1), NO, NO);
        x.tell(7, 0);
        for (int v : new int[] {-1, 256, MIN, MAX}) {
            due("pull thing " + v, x.pull(v, 0, 0), NO);
        }
        for (int v : new int[] {-1, 8, MIN, MAX}) {
            due("pull world " + v, x.pull(ALL, v, 0), NO);
        }
        for (int v : new int[] {-1, 2, MIN, MAX}) {
            due("pull what " + v, x.pull(ALL, 0, v), NO);
        }
        ChanceBounds y = of("a 0-0;", 1);
        fraction("sayings do not matter", y.pull(A, 1, 0), y.pull(A, 1, 1), 1, 4);
    }

    // ---- promise 20

    private static void count() {
        ChanceBounds x = of("a 1-2;b 3-4;c 5-6;", 3);
        x.on(1, 0);
        typeAll(x, "a if");
        x.tell(3, 1000);
        due("sayings", x.count(0), 3);
        due("on", x.count(1), 2);
        due("bytes", x.count(2), 4);
        due("thousandths", x.count(3), 1875);
        for (int what : new int[] {-1, 4, MIN, MAX}) {
            due("count " + what, x.count(what), BAD);
        }
    }
}
