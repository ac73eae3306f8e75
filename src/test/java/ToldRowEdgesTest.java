/** The document's boundary cases of TOLD ROWS: section 4 of the terms, promises 17 to 20. */
public final class ToldRowEdgesTest {
    private static final int BAD = Sentences.BAD;
    private static final int A = Sentences.A, B = Sentences.B, C = Sentences.C, ALL = Sentences.ALL;
    private static final String NO_ROW = "none none none none none none none none";

    private static final Sentences is = new Sentences();

    public static void main(String[] args) {
        atFirst();
        thousandths();
        checkTogether();
        checkThoseThatAreOn();
        checkAtTheEdge();
        pullShares();
        pullNone();
        pullEachThing();
        counts();
        is.end();
    }

    private static void atFirst() {
        is.of("WORLDS have 0 .. 1000 thousandths each (125 each at first)");
        for (int world = 0; world < 8; world++) {
            ChanceBounds x = new ChanceBounds();
            is.due("tell(" + world + ", 0)", x.tell(world, 0), 125);
            is.due("together", x.count(3), 875);
        }
        is.due("together", new ChanceBounds().count(3), 1000);
    }

    private static void thousandths() {
        is.of("tell: Thousandths of a WORLD become v: what they were. BAD");
        for (int world = 0; world < 8; world++) {
            ChanceBounds x = new ChanceBounds();
            is.due("to 0", x.tell(world, 0), 125);
            is.due("to 1000", x.tell(world, 1000), 0);
            is.due("to 1", x.tell(world, 1), 1000);
            is.due("to 999", x.tell(world, 999), 1);
            for (int v : new int[] {-1, 1001, Integer.MIN_VALUE, Integer.MAX_VALUE, 65536}) {
                is.due("to " + v, x.tell(world, v), BAD);
            }
            is.due("it stays", x.tell(world, 999), 999);
            is.due("the others stay", x.count(3), 999 + 7 * 125);
        }
        ChanceBounds x = new ChanceBounds();
        for (int world : new int[] {-1, 8, 32, Integer.MIN_VALUE, Integer.MAX_VALUE}) {
            is.due("WORLD " + world, x.tell(world, 5), BAD);
        }
        is.due("all stay", x.count(3), 1000);
        is.of("tell: a TOLD ROW is kept through clear and read");
        x.tell(3, 77);
        Sentences.typeAll(x, "a 1-2;?");
        x.read();
        x.clear();
        Sentences.typeAll(x, "a 1-2;");
        x.read();
        is.due("it stays", x.tell(3, 0), 77);
    }

    private static void checkTogether() {
        is.of("CHECK: -1: they are not 1000 together");
        ChanceBounds x = is.read("a 0-0;");
        is.due("1000", x.check(), 1);
        x.tell(0, 124);
        is.due("999", x.check(), -1);
        x.tell(0, 126);
        is.due("1001", x.check(), -1);
        x.tell(0, 125);
        is.due("1000 again", x.check(), 1);
        Sentences.tellAll(x, 0, 0, 0, 0, 0, 0, 0, 0);
        is.due("0", x.check(), -1);
        Sentences.tellAll(x, 1000, 1000, 1000, 1000, 1000, 1000, 1000, 1000);
        is.due("8000", x.check(), -1);
        Sentences.tellAll(x, 1000, 0, 0, 0, 0, 0, 0, 0);
        is.due("1000 of one WORLD", x.check(), 0);
        Sentences.tellAll(x, 0, 0, 0, 0, 0, 0, 0, 1000);
        is.due("1000 of another one", x.check(), 1);
        ChanceBounds none = new ChanceBounds();
        is.due("no SAYINGS", none.check(), 0);
        none.tell(7, 124);
        is.due("no SAYINGS and 999", none.check(), -1);
    }

    private static void checkThoseThatAreOn() {
        is.of("CHECK: else how many SAYINGS that are ON HOLD not");
        ChanceBounds x = is.read("a 0-0;b 0-0;c 0-0;a 100-100;");
        for (int off = 0; off <= 4; off++) {
            is.due(off + " are not ON", x.check(), 4 - off);
            x.on(off, 0);
        }
        ChanceBounds y = is.read("a 50-50;b 0-0;c 0-100;a if b 50-50;");
        is.due("one of four", y.check(), 1);
        y.on(1, 0);
        is.due("it is not ON", y.check(), 0);
        y.on(1, 1);
        y.move(1, 1, 50);
        is.due("it holds then", y.check(), 0);
        is.due("ROWS need not be able to be", is.read("a 0-0;a 1-1;a 50-50;").check(), 2);
    }

    private static void checkAtTheEdge() {
        is.of("CHECK: HOLDS: no less than FROM, no more than TO hundredths");
        for (int both = 0; both <= 200; both++) {
            ChanceBounds x = is.read("a if b 25-75;");
            Sentences.tellAll(x, 800, 0, 200 - both, both, 0, 0, 0, 0);
            is.due(both + " of 200", x.check(), both >= 50 && both <= 150 ? 0 : 1);
        }
        for (int of : new int[] {1, 2, 3, 7, 99, 101, 999, 1000}) {
            for (int both = 0; both <= of && both <= 20; both++) {
                ChanceBounds x = is.read("a if b 5-15;");
                Sentences.tellAll(x, 0, 1000 - of, of - both, both, 0, 0, 0, 0);
                boolean holds = 100 * both >= 5 * of && 100 * both <= 15 * of;
                is.due(both + " of " + of, x.check(), holds ? 0 : 1);
            }
        }
        ChanceBounds zero = is.read("a if b 100-100;a if b 0-0;");
        Sentences.tellAll(zero, 500, 500, 0, 0, 0, 0, 0, 0);
        is.due("hundredths of nothing", zero.check(), 0);
        ChanceBounds all = is.read("a 100-100;a 0-0;");
        Sentences.tellAll(all, 0, 1000, 0, 0, 0, 0, 0, 0);
        is.due("all of it", all.check(), 1);
        all.on(1, 0);
        is.due("all of it", all.check(), 0);
    }

    private static void pullShares() {
        is.of("PULL: the ROW with that THING for sure: the share of each of its WORLDS of all of it; chances as fractions");
        ChanceBounds x = new ChanceBounds();
        is.pulled(x, ALL, "1/8 1/8 1/8 1/8 1/8 1/8 1/8 1/8");
        is.pulled(x, A, "0/1 1/4 0/1 1/4 0/1 1/4 0/1 1/4");
        is.pulled(x, 1, "1/1 0/1 0/1 0/1 0/1 0/1 0/1 0/1");
        is.pulled(x, 128, "0/1 0/1 0/1 0/1 0/1 0/1 0/1 1/1");
        Sentences.tellAll(x, 1, 0, 999, 0, 0, 0, 0, 0);
        is.pulled(x, ALL, "1/1000 0/1 999/1000 0/1 0/1 0/1 0/1 0/1");
        is.pulled(x, 3, "1/1 0/1 0/1 0/1 0/1 0/1 0/1 0/1");
        is.pulled(x, B, "0/1 0/1 1/1 0/1 0/1 0/1 0/1 0/1");
        Sentences.tellAll(x, 100, 200, 0, 350, 350, 0, 0, 0);
        is.pulled(x, 0b1010, "0/1 4/11 0/1 7/11 0/1 0/1 0/1 0/1");
        is.pulled(x, 0b111, "1/3 2/3 0/1 0/1 0/1 0/1 0/1 0/1");
        is.of("PULL is of the TOLD ROW alone, whatever the SAYINGS");
        ChanceBounds y = is.read("a 0-0;a 1-1;");
        is.pulled(y, A, "0/1 1/4 0/1 1/4 0/1 1/4 0/1 1/4");
        is.due("nothing changes", y.count(3), 1000);
    }

    private static void pullNone() {
        is.of("PULL: NONE: it has no chance, or they are not 1000 together");
        ChanceBounds x = new ChanceBounds();
        is.pulled(x, 0, NO_ROW);
        x.tell(0, 124);
        is.pulled(x, ALL, NO_ROW);
        is.pulled(x, 0, NO_ROW);
        x.tell(0, 126);
        is.pulled(x, ALL, NO_ROW);
        is.pulled(x, 1, NO_ROW);
        x.tell(0, 125);
        is.pulled(x, 1, "1/1 0/1 0/1 0/1 0/1 0/1 0/1 0/1");
        Sentences.tellAll(x, 500, 0, 0, 0, 0, 0, 0, 500);
        is.pulled(x, 126, NO_ROW);
        is.pulled(x, 127, "1/1 0/1 0/1 0/1 0/1 0/1 0/1 0/1");
        is.pulled(x, C, "0/1 0/1 0/1 0/1 0/1 0/1 0/1 1/1");
        Sentences.tellAll(x, 0, 0, 0, 0, 0, 0, 0, 0);
        is.pulled(x, ALL, NO_ROW);
        Sentences.tellAll(x, 1000, 1000, 1000, 1000, 1000, 1000, 1000, 1000);
        is.pulled(x, ALL, NO_ROW);
    }

    private static void pullEachThing() {
        is.of("PULL of every THING, in least terms, the lower number above 0");
        int[] told = {10, 20, 30, 0, 340, 75, 500, 25};
        for (int thing = 0; thing < 256; thing++) {
            ChanceBounds x = new ChanceBounds();
            Sentences.tellAll(x, told);
            int whole = 0;
            for (int world = 0; world < 8; world++) {
                whole += (thing >> world & 1) * told[world];
            }
            StringBuilder row = new StringBuilder();
            for (int world = 0; world < 8; world++) {
                int part = (thing >> world & 1) * told[world];
                int divisor = java.math.BigInteger.valueOf(part).gcd(java.math.BigInteger.valueOf(whole)).intValue();
                row.append(world == 0 ? "" : " ").append(whole == 0 ? "none" : part / divisor + "/" + whole / divisor);
            }
            is.pulled(x, thing, row.toString());
        }
    }

    private static void counts() {
        is.of("count: 0 SAYINGS, 1 SAYINGS that are ON, 2 bytes of THE TEXT, 3 thousandths together. BAD");
        for (int many = 0; many <= 4; many++) {
            ChanceBounds x = is.read("a 1-2;".repeat(many));
            for (int off = 0; off <= many; off++) {
                is.due("SAYINGS", x.count(0), many);
                is.due("SAYINGS that are ON", x.count(1), many - off);
                x.on(off, 0);
            }
        }
        ChanceBounds x = new ChanceBounds();
        for (int bytes = 0; bytes <= 200; bytes++) {
            is.due("bytes", x.count(2), bytes);
            x.type('?', 1);
        }
        is.due("200 bytes, no more", x.count(2), 200);
        Sentences.tellAll(x, 0, 0, 0, 0, 0, 0, 0, 0);
        is.due("0 together", x.count(3), 0);
        Sentences.tellAll(x, 1000, 1000, 1000, 1000, 1000, 1000, 1000, 1000);
        is.due("8000 together", x.count(3), 8000);
        for (int what : new int[] {-1, 4, Integer.MIN_VALUE, Integer.MAX_VALUE}) {
            is.due("count(" + what + ")", x.count(what), BAD);
        }
    }
}
