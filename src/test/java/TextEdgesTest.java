/** The document's boundary cases of THE TEXT: section 1 of the terms, promises 1 to 4. */
public final class TextEdgesTest {
    private static final int BAD = Sentences.BAD, FULL = Sentences.FULL;
    private static final int A = Sentences.A, B = Sentences.B, C = Sentences.C, ALL = Sentences.ALL;
    private static final String ONE = "a 1-2;";
    private static final String FOUR = "a 1-2;b 1-2;c 1-2;a 1-2;";
    private static final String TWELVE = "a&b&c&a&b&c&a&b&c&a&b&c";

    /** What stands ahead, and which tokens can stand behind it: L is a LETTER, i is if, n a NUMBER. */
    private static final String[][] PLACES = {
        {"", "L!("}, {" ", "L!("}, {ONE, "L!("}, {ONE + "b 1-2;c 1-2; ", "L!("}, {FOUR, ""}, {FOUR + " ", ""},
        {"!", "L!("}, {"(", "L!("}, {"!(", "L!("}, {"(!", "L!("}, {"a&", "L!("}, {"a|", "L!("}, {"(a&", "L!("},
        {"a&b|", "L!("}, {"a if ", "L!("}, {"a if b&", "L!("}, {"a if !", "L!("}, {"a if (", "L!("},
        {"a ", "&|in"}, {"!a ", "&|in"}, {"(a)", "&|in"}, {"a&b ", "&|in"}, {"a|b ", "&|in"}, {"!(a)", "&|in"},
        {"(a ", "&|)"}, {"((a)", "&|)"}, {"!(a ", "&|)"}, {"(!a ", "&|)"}, {"a if (b ", "&|)"}, {"(a|b ", "&|)"},
        {"a if b ", "&|n"}, {"a if !b ", "&|n"}, {"a if (b)", "&|n"}, {"a if b|c ", "&|n"},
        {"a 0 ", "-"}, {"a if b 0 ", "-"}, {"a 0-", "n"}, {"a if b 0- ", "n"}, {"a 0-0 ", ";"}, {"a if b 0-0 ", ";"},
    };

    private static final Sentences is = new Sentences();

    public static void main(String[] args) {
        newObject();
        lettersAndWorlds();
        sayingsAtMost();
        bytesAtMost();
        blanks();
        perhapsIf();
        hundredths();
        toNoLessThanFrom();
        formulas();
        lettersInFormula();
        openAtMost();
        tokensThatCannotStand();
        bytesThatBeginNone();
        wrongWords();
        wrongNumbers();
        endsTooEarly();
        firstFaultCounts();
        readAnew();
        typeBytes();
        typeHowMany();
        typeFull();
        clearText();
        readTakesPlace();
        readFaultChangesNothing();
        is.end();
    }

    /** The FAULT of a text alone in a new object; -1: there is none. */
    private static int faultOf(String text) {
        int answer = Sentences.typed(text).read();
        return answer >= 0 ? -1 : -10 - answer;
    }

    private static void fault(String text, int place) {
        is.due("FAULT of \"" + text + "\"", faultOf(text), place);
    }

    private static void fine(String text) {
        is.due("FAULT of \"" + text + "\"", faultOf(text), -1);
    }

    private static void formula(String formula, int worlds) {
        is.due("X " + formula, is.read(formula + " 0-1;").saying(0, 0), worlds);
        is.due("Y " + formula, is.read("a if " + formula + " 0-1;").saying(0, 1), worlds);
    }

    private static String times(String piece, int times) {
        return piece.repeat(times);
    }

    // ---- promise 1

    private static void newObject() {
        is.of("A new object: No SAYINGS. (At first there are none.)");
        ChanceBounds x = new ChanceBounds();
        is.due("count(0)", x.count(0), 0);
        is.due("count(1)", x.count(1), 0);
        is.due("count(2)", x.count(2), 0);
        for (int i = -1; i < 5; i++) {
            is.due("saying(" + i + ", 4)", x.saying(i, 4), BAD);
        }
        ChanceBounds other = is.read(FOUR);
        is.due("one object's are not another's", new ChanceBounds().count(0), 0);
        is.due("nor gone with it", other.count(0), 4);
    }

    // ---- section 1

    private static void lettersAndWorlds() {
        is.of("LETTERS are a, b, c; bit 0 of a WORLD is a, bit 1 is b, bit 2 is c");
        for (int world = 0; world < 8; world++) {
            String formula = ((world & 1) == 1 ? "" : "!") + "a&" + ((world & 2) == 2 ? "" : "!") + "b&" + ((world & 4) == 4 ? "" : "!") + "c";
            formula(formula, 1 << world);
        }
        for (char letter = 'a'; letter <= 'z'; letter++) {
            is.due("FAULT of " + letter, faultOf(letter + " 1-2;"), letter <= 'c' ? -1 : 0);
        }
        is.of("A THING is a set of WORLDS (bits 0 .. 255)");
        formula("a&!a", 0);
        formula("a|!a", ALL);
        formula("!(a&!a)", ALL);
        formula("!a", ALL - A);
    }

    private static void sayingsAtMost() {
        is.of("SAYINGS (4 at most)");
        for (int many = 0; many <= 4; many++) {
            is.due(many + " sayings", is.read(times(ONE, many)).count(0), many);
        }
        fine(FOUR + "     ");
        is.of("the first TOKEN that can't stand there (a 5th SAYING's first");
        fault(FOUR + "a 1-2;", 24);
        fault(FOUR + "   !a 1-2;", 27);
        fault(FOUR + "a", 24);
        fault(FOUR + "(((((((", 24);
        fault(FOUR + ";", 24);
        fault(FOUR + "1000", 24);
        fault(FOUR + "d", 24);
        fault(times(ONE, 30), 24);
    }

    private static void bytesAtMost() {
        is.of("a text (200 bytes at most)");
        ChanceBounds x = Sentences.typed(FOUR + times(" ", 176));
        is.due("200 bytes", x.count(2), 200);
        is.due("the 201st", x.type(' ', 1), FULL);
        is.due("are read", x.read(), 4);
        ChanceBounds last = Sentences.typed(times(" ", 194) + ONE);
        is.due("the last byte counts", last.read(), 1);
        fault(times(" ", 199) + "a", 200);
        fault(times(" ", 199) + ";", 199);
        fault(times(" ", 192) + "a 12-100", 200);
        fault(times(" ", 192) + "a 12-101", 197);
        fault("a " + times("1", 198), 2);
        fault(times("a", 200), 0);
    }

    private static void blanks() {
        is.of("read byte by byte, blanks (32) between TOKENS");
        ChanceBounds x = is.read("   !  (  a  &  b  )  |  c  if  b  10  -  20  ;   ");
        is.due("many: X", x.saying(0, 0), ALL & ~(A & B) | C);
        is.due("many: Y", x.saying(0, 1), B);
        is.due("many: FROM", x.saying(0, 2), 10);
        is.due("many: TO", x.saying(0, 3), 20);
        ChanceBounds y = is.read("!(a&b)|c if b10-20;c5-6;");
        is.due("few: X", y.saying(0, 0), ALL & ~(A & B) | C);
        is.due("few: FROM", y.saying(0, 2), 10);
        is.due("few: the next", y.saying(1, 3), 6);
        is.due("few: the next", is.read("(a)if(b)1-2;").saying(0, 1), B);
        is.due("blanks alone", is.read(" ").count(0), 0);
        fault("a i f b 1-2;", 2);
        fault("a 1 0-20;", 4);
        fault("a 1-2 0;", 6);
        for (int sign : new int[] {9, 10, 11, 12, 13, 0, 31, 160, 133}) {
            fault("a" + (char) sign + "1-2;", 1);
        }
    }

    private static void perhapsIf() {
        is.of("FORMULA, perhaps \"if\" FORMULA (X the first FORMULA, Y the second one, or all WORLDS)");
        is.due("without: Y", is.read("a 1-2;").saying(0, 1), ALL);
        is.due("with: Y", is.read("a if b 1-2;").saying(0, 1), B);
        is.due("with: X", is.read("a if b 1-2;").saying(0, 0), A);
        ChanceBounds x = is.read("a if b 1-2;c 3-4;");
        is.due("the next one has none", x.saying(1, 1), ALL);
        fault("a if b if c 1-2;", 7);
        fault("if a 1-2;", 0);
        fault("a if 1-2;", 5);
        fault("a if;", 4);
        fault("(a if b) 1-2;", 3);
    }

    private static void hundredths() {
        is.of("FROM - TO ; (hundredths, 0 .. 100 each) .. a NUMBER above 100");
        for (int number = 0; number <= 1100; number++) {
            is.due("FROM " + number, faultOf("a " + number + "-100;"), number <= 100 ? -1 : 2);
            is.due("TO " + number, faultOf("a 0-" + number + ";"), number <= 100 ? -1 : 4);
        }
        for (int number = 0; number <= 100; number++) {
            ChanceBounds x = Sentences.typed("a " + number + "-100;b 0-" + number + ";");
            is.due("read", x.read(), 2);
            is.due("FROM is " + number, x.saying(0, 2), number);
            is.due("TO is " + number, x.saying(1, 3), number);
        }
    }

    private static void toNoLessThanFrom() {
        is.of("TO no less than FROM .. TO below FROM, too");
        for (int from = 0; from <= 100; from++) {
            String ahead = "a " + from + "-";
            for (int to = Math.max(0, from - 2); to <= Math.min(100, from + 2); to++) {
                is.due(ahead + to, faultOf(ahead + to + ";"), to >= from ? -1 : ahead.length());
            }
        }
        fault("a 100-0;", 6);
        fault("a 2-10;b 10-9;", 12);
        fine("a 99-100;b 0-1;");
    }

    private static void formulas() {
        is.of("FORMULA: PARTS with | between; PART: FACTORS with & between; a FACTOR: a LETTER, ! FACTOR, ( FORMULA )");
        formula("a|b&c", A | B & C);
        formula("a&b|c", A & B | C);
        formula("a|b&c|a", A | B & C);
        formula("(a|b)&c", (A | B) & C);
        formula("a&(b|c)", A & (B | C));
        formula("!a&b", ~A & B);
        formula("!a|b", ALL & ~A | B);
        formula("!(a|b)", ALL & ~(A | B));
        formula("!!a", A);
        formula("!(!a)", A);
        formula("a&!b|!c&b", A & ~B | ~C & B);
        formula("a|b|c", A | B | C);
        formula("a&b&c", A & B & C);
        formula("((a))", A);
        fault("a&&b 1-2;", 2);
        fault("a|&b 1-2;", 2);
        fault("|a 1-2;", 0);
        fault("a!b 1-2;", 1);
        fault("ab 1-2;", 0);
        fault("a b 1-2;", 2);
        fault("(a)(b) 1-2;", 3);
        fault("() 1-2;", 1);
        fault("a) 1-2;", 1);
        fault("(a)) 1-2;", 3);
        fault("(a 1-2;", 3);
        fault("a! 1-2;", 1);
    }

    private static void lettersInFormula() {
        is.of("12 LETTERS in a FORMULA .. a 13th LETTER");
        formula(TWELVE, A & B & C);
        formula("a|a|a|a|a|a|a|a|a|a|a|b", A | B);
        formula("(a&a&a)|(a&a&a)|!(a&a&a&!b&!b&b)", ALL);
        fault(TWELVE + "&a 1-2;", 24);
        fault(TWELVE + "| !a 1-2;", 26);
        fault(TWELVE + "|(a) 1-2;", 25);
        fault("(" + TWELVE + ")|a 1-2;", 26);
        fault("(" + TWELVE + "|a) 1-2;", 25);
        fault("(a)|(a)|(a)|(a)|(a)|(a)|(a)|(a)|(a)|(a)|(a)|(a)|(a) 1-2;", 49);
        fault("a if " + TWELVE + "&a 1-2;", 29);
        fault(ONE + TWELVE + "&a 1-2;", 30);
        fault(TWELVE + "&a", 24);
        fine(TWELVE + " if " + TWELVE + " 1-2;");
        fine(TWELVE + " if " + TWELVE + " 1-2;" + TWELVE + " if " + TWELVE + " 1-2;");
        fine(TWELVE + " 1-2;" + TWELVE + " 1-2;" + TWELVE + " 1-2;" + TWELVE + " 1-2;");
        fault(TWELVE + " 1-2;" + TWELVE + "&b 1-2;", 52);
        fault(TWELVE + "&d 1-2;", 24);
        fault(TWELVE + "&1-2;", 24);
    }

    private static void openAtMost() {
        is.of("6 ( and ! open at most .. a seventh ( or ! that is open");
        formula(times("(", 6) + "a" + times(")", 6), A);
        formula(times("!", 6) + "a", A);
        formula(times("!", 5) + "a", ALL & ~A);
        formula("!(!(!(a)))", ALL & ~A);
        formula("(!(!(!a)))", ALL & ~A);
        fault(times("(", 7) + "a" + times(")", 7) + " 1-2;", 6);
        fault(times("!", 7) + "a 1-2;", 6);
        fault(times("(", 6) + "!a" + times(")", 6) + " 1-2;", 6);
        fault(times("!", 6) + "(a) 1-2;", 6);
        fault("!(!(!(!a))) 1-2;", 6);
        fault("(!(!(!(a)))) 1-2;", 6);
        fault("( ( ( ( ( ( ( a", 12);
        fault("a if " + times("(", 7) + "a", 11);
        fault("a if " + times("!", 7) + "a", 11);
        fault(times("(", 6) + "a&!b", 8);
        fault(times("(", 6) + "a|(b", 8);
        is.of("a ( is open up to its ), a ! up to the end of its FACTOR");
        formula(times("(", 6) + "a" + times(")", 6) + "&" + times("(", 6) + "b" + times(")", 6), A & B);
        formula(times("!", 6) + "a|" + times("!", 6) + "b", A | B);
        formula("!a&!a&!a&!a&!a&!a&!a&!b", ALL & ~(A | B));
        formula("(a)&(a)&(a)&(a)&(a)&(a)&(a)&(b)", A & B);
        formula(times("(", 5) + "(a)&(b)&!c" + times(")", 5), A & B & ~C);
        formula(times("(", 5) + "!a&!b&(c)" + times(")", 5), ALL & ~A & ~B & C);
        formula("!(" + times("!", 4) + "a&" + times("!", 4) + "b)", ALL & ~(A & B));
        formula("!!!(a)&!!!!!!b", ALL & ~A & B);
        fault("!(!!!!a&!!!!!b) 1-2;", 12);
        fine(times("(", 6) + "a" + times(")", 6) + " if " + times("!", 6) + "a 1-2;" + times("!", 6) + "a 1-2;");
        formula("((((((a|b)&c)|a)&b)|c)&a)", ((((A | B) & C | A) & B) | C) & A);
    }

    private static void tokensThatCannotStand() {
        is.of("the place of the first byte of the first TOKEN that can't stand there");
        String[] tokens = {"a", "b", "c", "if", "0", "7", "42", "100", "!", "&", "|", "(", ")", "-", ";"};
        String[] kinds = {"L", "L", "L", "i", "n", "n", "n", "n", "!", "&", "|", "(", ")", "-", ";"};
        for (String[] place : PLACES) {
            for (int k = 0; k < tokens.length; k++) {
                boolean can = place[1].contains(kinds[k]);
                boolean ends = can && tokens[k].equals(";");
                String text = place[0] + tokens[k];
                is.due("FAULT of \"" + text + "\"", faultOf(text), ends ? -1 : can ? text.length() : place[0].length());
                String blank = place[0] + "  " + tokens[k] + " ";
                is.due("FAULT of \"" + blank + "\"", faultOf(blank), ends ? -1 : can ? blank.length() : place[0].length() + 2);
            }
        }
    }

    private static void bytesThatBeginNone() {
        is.of("of a byte that begins none");
        for (String[] place : PLACES) {
            for (int sign = 0; sign < 256; sign++) {
                boolean begins = sign >= 'a' && sign <= 'z' || sign >= '0' && sign <= '9' || " !&|()-;".indexOf(sign) >= 0;
                if (!begins) {
                    fault(place[0] + (char) sign, place[0].length());
                    fault(place[0] + " " + (char) sign + "a", place[0].length() + 1);
                }
            }
        }
        for (int sign = 'A'; sign <= 'Z'; sign++) {
            fault("a" + (char) sign + " 1-2;", 1);
        }
    }

    private static void wrongWords() {
        is.of("a word that is none of a, b, c, if .. TOKENS are words of letters a .. z");
        for (char one = 'a'; one <= 'z'; one++) {
            for (char two = 'a'; two <= 'z'; two++) {
                String word = "" + one + two;
                fault(word + " 1-2;", 0);
                fault("!" + word, 1);
                fault("a " + word, word.equals("if") ? 4 : 2);
            }
            fault("a " + one, 2);
            fault("if" + one + " 1-2;", 0);
            fault("a if" + one + " b 1-2;", 2);
            fault("a " + one + "if b 1-2;", 2);
        }
        fault("aif b 1-2;", 0);
        fault("a ifb 1-2;", 2);
        fault("a if bc 1-2;", 5);
        fault("a if if 1-2;", 5);
        fault("abc 1-2;", 0);
        fault("a&bb 1-2;", 2);
        fault("a 1-2;z", 6);
        fault("a 1-2 zzz;", 6);
        fault("a 1-x;", 4);
        fault("a fi b 1-2;", 2);
    }

    private static void wrongNumbers() {
        is.of("a NUMBER above 999 or with a 0 ahead of others, that TOKEN's");
        String[] numbers = {"1000", "1001", "9999", "10000", "65536", "65537", "65586", "2147483648", "4294967296", "4294967297",
            "4294967346", "18446744073709551616", "18446744073709551617", "18446744073709551666", times("9", 150), "1" + times("0", 150),
            "00", "01", "000", "001", "007", "010", "0100", "0000", "0" + times("0", 150), times("0", 150) + "5"};
        for (String number : numbers) {
            fault("a " + number + "-100;", 2);
            fault("a  0-" + number + ";", 5);
            fault(number, 0);
            fault("a 0-0 " + number, 6);
            fault("a&" + number, 2);
        }
        for (int number = 0; number < 1000; number++) {
            fault("a 0" + number + "-100;", 2);
        }
        fine("a 0-0;");
        fine("a 0-10;");
    }

    private static void endsTooEarly() {
        is.of("the text's length, if it ends too early");
        String whole = "!(a&b)|c if a|!b 1-20;";
        String ends = "!(a&b)|c if a|!b 1-20;  c 1-2;";
        for (int length = 1; length < whole.length(); length++) {
            String text = whole.substring(0, length);
            // An i alone is a word that is none.
            is.due("FAULT of \"" + text + "\"", faultOf(text), text.endsWith("i") ? length - 1 : length);
            is.due("and a blank", faultOf(text + " "), text.endsWith("i") ? length - 1 : length + 1);
            is.due("and five", faultOf(text + "     "), text.endsWith("i") ? length - 1 : length + 5);
        }
        for (int length = whole.length(); length < whole.length() + 3; length++) {
            fine(ends.substring(0, length));
        }
        for (int length = whole.length() + 3; length < ends.length(); length++) {
            fault(ends.substring(0, length), length);
        }
        is.of("an empty text ends nowhere too early");
        is.due("read of nothing", new ChanceBounds().read(), 0);
        fine("  ");
    }

    private static void firstFaultCounts() {
        is.of("the first TOKEN that can't stand there: the first of several");
        fault("a b ? 1-2;", 2);
        fault("a 101-1000;", 2);
        fault("a 20-10 zz", 5);
        fault("a & d | 1000", 4);
        fault("zz", 0);
        fault("a 1-2;b 3-2;c 1000-", 10);
        fault("a 1-2; ? b b", 7);
        fault(")", 0);
        fault("a)))", 1);
        fault("1000 d ?", 0);
        fault("a 5-4;" + FOUR, 4);
    }

    private static void readAnew() {
        is.of("(Read anew: all are ON.)");
        ChanceBounds x = is.read(FOUR);
        for (int i = 0; i < 4; i++) {
            is.due("ON at first", x.saying(i, 4), 1);
            x.on(i, 0);
        }
        is.due("none is ON", x.count(1), 0);
        Sentences.typeAll(x, FOUR);
        is.due("read", x.read(), 4);
        for (int i = 0; i < 4; i++) {
            is.due("ON anew", x.saying(i, 4), 1);
        }
        x.on(3, 0);
        Sentences.typeAll(x, ONE);
        x.read();
        Sentences.typeAll(x, FOUR);
        x.read();
        is.due("ON behind fewer, too", x.count(1), 4);
    }

    // ---- promise 2

    private static void typeBytes() {
        is.of("The lowest n (1 .. 8) bytes of v, the highest of them first, come to THE TEXT");
        String text = "a 1-2;b ";
        for (int n = 1; n <= 8; n++) {
            long v = 0;
            for (int k = 0; k < n; k++) {
                v = v << 8 | text.charAt(k);
            }
            // What stands above the n bytes must not matter.
            long[] above = n == 8 ? new long[] {0} : new long[] {0, -1L << 8 * n, 0x6161616161616161L << 8 * n};
            for (long high : above) {
                ChanceBounds x = new ChanceBounds();
                is.due("type of " + n, x.type(v | high, n), n);
                Sentences.typeAll(x, text.substring(n) + "3-4;");
                is.due("read", x.read(), 2);
                is.due("X of the second", x.saying(1, 0), B);
                is.due("TO of the second", x.saying(1, 3), 4);
            }
        }
        is.of("bytes are 0 .. 255: one of 128 and more is none of the others");
        for (int sign = 128; sign < 256; sign++) {
            ChanceBounds x = Sentences.typed(ONE);
            is.due("type of a byte", x.type((byte) sign, 1), 7);
            is.due("read", x.read(), -16);
        }
        ChanceBounds x = new ChanceBounds();
        is.due("eight bytes of 255", x.type(-1L, 8), 8);
        is.due("read", x.read(), -10);
        ChanceBounds y = Sentences.typed("a 1-2;");
        is.due("a lowest byte of 0", y.type(Long.MIN_VALUE, 8), 14);
        is.due("the highest is 128", y.read(), -16);
        ChanceBounds z = Sentences.typed("a 1-2;");
        is.due("the greatest", z.type(Long.MAX_VALUE, 1), 7);
        is.due("is 255", z.read(), -16);
    }

    private static void typeHowMany() {
        is.of("type: how many it has");
        ChanceBounds x = new ChanceBounds();
        int bytes = 0;
        for (int n = 1; n <= 8; n++) {
            bytes += n;
            is.due("type of " + n, x.type(0x2020202020202020L, n), bytes);
            is.due("count(2)", x.count(2), bytes);
        }
        is.of("type: n (1 .. 8) .. BAD");
        for (int n : new int[] {Integer.MIN_VALUE, -8, -1, 0, 9, 10, 16, 257, 264, Integer.MAX_VALUE}) {
            is.due("type of " + n, x.type('a', n), BAD);
            is.due("nothing came", x.count(2), bytes);
        }
        is.due("blanks alone still", x.read(), 0);
    }

    private static void typeFull() {
        is.of("type: FULL");
        for (int room = 0; room <= 8; room++) {
            for (int n = 1; n <= 8; n++) {
                ChanceBounds x = Sentences.typed(times(" ", 200 - room));
                is.due(n + " into room of " + room, x.type('?', n), n <= room ? 200 - room + n : FULL);
                is.due("bytes then", x.count(2), n <= room ? 200 - room + n : 200 - room);
            }
        }
        ChanceBounds x = Sentences.typed(times(" ", 187) + "a 10-20;b 3-");
        is.due("199 bytes", x.count(2), 199);
        is.due("none of two came", x.type('4' << 8 | ';', 2), FULL);
        is.due("one comes", x.type('4', 1), 200);
        is.due("the text ends too early", x.read(), -210);
        is.due("it is FULL still", x.type(';', 1), FULL);
        is.due("clear", x.clear(), 200);
        is.due("room again", x.type(';', 1), 1);
        is.of("Refused, the first of these: BAD, FULL");
        ChanceBounds full = Sentences.typed(times(" ", 200));
        for (int n = -1; n <= 10; n++) {
            is.due("type of " + n, full.type(' ', n), n >= 1 && n <= 8 ? FULL : BAD);
        }
        is.due("read", full.read(), 0);
        is.due("room again", full.type(' ', 8), 8);
    }

    // ---- promise 3

    private static void clearText() {
        is.of("clear: THE TEXT is empty: how many bytes it had");
        ChanceBounds x = is.read(ONE);
        is.due("none", x.clear(), 0);
        for (int bytes : new int[] {1, 8, 199, 200}) {
            Sentences.typeAll(x, times("?", bytes));
            is.due("clear of " + bytes, x.clear(), bytes);
            is.due("empty", x.count(2), 0);
            is.due("again", x.clear(), 0);
        }
        is.due("SAYINGS stay", x.count(0), 1);
        Sentences.typeAll(x, "b 3-");
        x.clear();
        Sentences.typeAll(x, "c 5-6;");
        is.due("what was is not read", x.read(), 1);
        is.due("X", x.saying(0, 0), C);
    }

    // ---- promise 4

    private static void readTakesPlace() {
        is.of("read: THE TEXT becomes SAYINGS, in place of those that were, and is empty then: how many");
        for (int before = 0; before <= 4; before++) {
            for (int then = 0; then <= 4; then++) {
                ChanceBounds x = is.read(times("a 1-2;", before));
                Sentences.typeAll(x, times("b if c 3-4;", then));
                is.due("read of " + then, x.read(), then);
                is.due("SAYINGS", x.count(0), then);
                is.due("empty", x.count(2), 0);
                is.due("clear", x.clear(), 0);
                for (int i = 0; i < 4; i++) {
                    is.due("X of " + i, x.saying(i, 0), i < then ? B : BAD);
                    is.due("Y of " + i, x.saying(i, 1), i < then ? C : BAD);
                }
            }
        }
        ChanceBounds x = is.read("a 0-0;");
        is.due("never", x.never(), A);
        is.due("an empty text has none", x.read(), 0);
        is.due("never", x.never(), 0);
    }

    private static void readFaultChangesNothing() {
        is.of("read: -10 less FAULT: nothing changes");
        String[] texts = {"?", "b", "b 3-4", "b 3-4;c", "b 3-4;c 4-3;", "b 3-4;c 5-6;a 7-8;a 9-10;b", "b if a 3-1000;"};
        for (String text : texts) {
            ChanceBounds x = is.read("c if a 10-20;b 50-60;");
            x.on(1, 0);
            x.move(0, 1, 30);
            x.tell(3, 7);
            Sentences.typeAll(x, text);
            String before = Sentences.state(x);
            is.isTrue("a fault of " + text, x.read() <= -10);
            is.same("state", Sentences.state(x), before);
            is.bounds(x, C, A, "1/10", "3/10");
        }
        ChanceBounds x = Sentences.typed("a 10-2");
        is.due("TO is below FROM", x.read(), -15);
        x.type('0', 1);
        is.due("it ends too early", x.read(), -17);
        x.type(';', 1);
        is.due("the text was kept", x.read(), 1);
        is.due("TO", x.saying(0, 3), 20);
        is.of("-10 less FAULT: FAULT from 0 to the text's length");
        is.due("the first byte", Sentences.typed(";").read(), -10);
        is.due("the last byte of a full text", Sentences.typed(times(" ", 199) + ";").read(), -209);
        is.due("a full text's length", Sentences.typed(times(" ", 199) + "a").read(), -210);
    }
}
