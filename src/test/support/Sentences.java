/**
 * Answers that are due, kept under the sentence of the document that asks for them: a wrong answer
 * is printed with its sentence, and a sentence under which nothing was asked counts as wrong.
 */
final class Sentences {
    static final int BAD = -1, FULL = -3, NONE = -9;
    static final long NO = -1000000000000000000L;
    static final int A = 170, B = 204, C = 240, ALL = 255;

    private String sentence = "";
    private int sentences = 0;
    private int answers = 0;
    private int answersOfSentence = 0;
    private int wrong = 0;

    /** What follows belongs to these words of the document. */
    void of(String words) {
        seeThatSomethingWasAsked();
        sentence = words;
        sentences++;
        answersOfSentence = 0;
    }

    void due(String call, long got, long want) {
        answers++;
        answersOfSentence++;
        if (got != want) {
            tellWrong(call + ": answered " + got + ", due is " + want);
        }
    }

    void same(String what, String got, String want) {
        answers++;
        answersOfSentence++;
        if (!got.equals(want)) {
            tellWrong(what + ": is " + got + ", due is " + want);
        }
    }

    void isTrue(String what, boolean holds) {
        due(what, holds ? 1 : 0, 1);
    }

    /** Ends the program with 1 if an answer was wrong. */
    void end() {
        seeThatSomethingWasAsked();
        System.out.println(sentences + " sentences, " + answers + " answers, " + wrong + " not as due");
        if (wrong != 0) {
            System.exit(1);
        }
    }

    private void seeThatSomethingWasAsked() {
        if (sentences > 0 && answersOfSentence == 0) {
            tellWrong("nothing was asked");
        }
    }

    private void tellWrong(String story) {
        wrong++;
        if (wrong <= 40) {
            System.out.println("\"" + sentence + "\": " + story);
        }
    }

    // ---- objects

    static void typeAll(ChanceBounds x, String text) {
        for (int at = 0; at < text.length(); at += 8) {
            int n = Math.min(8, text.length() - at);
            long v = 0;
            for (int k = 0; k < n; k++) {
                v = v << 8 | text.charAt(at + k);
            }
            x.type(v, n);
        }
    }

    /** A new object with a text that is not read yet. */
    static ChanceBounds typed(String text) {
        ChanceBounds x = new ChanceBounds();
        typeAll(x, text);
        return x;
    }

    /** A new object that has read a text, which must be without fault. */
    ChanceBounds read(String text) {
        ChanceBounds x = typed(text);
        due("read of " + text, x.read(), sayingsIn(text));
        return x;
    }

    static int sayingsIn(String text) {
        int many = 0;
        for (int at = 0; at < text.length(); at++) {
            many += text.charAt(at) == ';' ? 1 : 0;
        }
        return many;
    }

    static void tellAll(ChanceBounds x, int... thousandths) {
        for (int world = 0; world < thousandths.length; world++) {
            x.tell(world, thousandths[world]);
        }
    }

    /** All that the calls show of an object but for the text's bytes; it is left as it was. */
    static String state(ChanceBounds x) {
        StringBuilder all = new StringBuilder();
        for (int what = 0; what < 4; what++) {
            all.append(x.count(what)).append(' ');
        }
        for (int i = 0; i < x.count(0); i++) {
            for (int what = 0; what < 5; what++) {
                all.append(what == 0 ? "[" : " ").append(x.saying(i, what));
            }
            all.append("] ");
        }
        for (int world = 0; world < 8; world++) {
            int v = x.tell(world, 0);
            x.tell(world, v);
            all.append(v).append(' ');
        }
        return all.toString();
    }

    // ---- fractions, as text: "3/10", "none", or the two numbers that do not fit together

    static String fraction(long upper, long lower) {
        return upper == NO && lower == NO ? "none" : upper + "/" + lower;
    }

    void bounds(ChanceBounds x, int thing, int other, String least, String greatest) {
        String call = "bound(" + thing + ", " + other + ", ";
        same(call + "0)", fraction(x.bound(thing, other, 0, 0), x.bound(thing, other, 0, 1)), least);
        same(call + "1)", fraction(x.bound(thing, other, 1, 0), x.bound(thing, other, 1, 1)), greatest);
    }

    void differences(ChanceBounds x, int thing, int other, String least, String greatest) {
        String call = "differ(" + thing + ", " + other + ", ";
        same(call + "0)", fraction(x.differ(thing, other, 0, 0), x.differ(thing, other, 0, 1)), least);
        same(call + "1)", fraction(x.differ(thing, other, 1, 0), x.differ(thing, other, 1, 1)), greatest);
    }

    /** The chances of WORLDS 0 to 7, with blanks between. */
    void firstRow(ChanceBounds x, String want) {
        StringBuilder row = new StringBuilder();
        for (int world = 0; world < 8; world++) {
            row.append(world == 0 ? "" : " ").append(fraction(x.first(world, 0), x.first(world, 1)));
        }
        same("FIRST ROW", row.toString(), want);
    }

    void pulled(ChanceBounds x, int thing, String want) {
        StringBuilder row = new StringBuilder();
        for (int world = 0; world < 8; world++) {
            row.append(world == 0 ? "" : " ").append(fraction(x.pull(thing, world, 0), x.pull(thing, world, 1)));
        }
        same("PULL of " + thing, row.toString(), want);
    }
}
