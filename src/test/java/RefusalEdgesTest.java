import java.util.ArrayList;
import java.util.List;

/**
 * "Refused, and nothing changes, the first of these: BAD (a number is not as told, or there is no
 * such thing), FULL": every number of every call is moved through and beyond what is told of it.
 * Behind that: an object's 512 calls.
 */
public final class RefusalEdgesTest {
    private static final int BAD = Sentences.BAD, FULL = Sentences.FULL;
    private static final long NO = Sentences.NO;
    private static final int A = Sentences.A, B = Sentences.B, ALL = Sentences.ALL;
    private static final int[] NUMBERS = numbers();

    private static final Sentences is = new Sentences();

    private interface Call {
        long answer(ChanceBounds x, int v);
    }

    public static void main(String[] args) {
        constants();
        numbersOfSayings();
        numbersOfChances();
        numbersOfSayingsAmongOneAnother();
        numbersOfToldRows();
        noSuchSaying();
        severalAtOnce();
        asksChangeNothing();
        bytesStay();
        manyCalls();
        is.end();
    }

    /** All near what the document tells, and those that only look like them in fewer bits. */
    private static int[] numbers() {
        List<Integer> all = new ArrayList<>();
        for (int v = -300; v <= 1300; v++) {
            all.add(v);
        }
        for (int bit = 11; bit < 32; bit++) {
            for (int near : new int[] {-1, 0, 1, 3, 8, 100, 255}) {
                all.add((1 << bit) + near);
                all.add(-(1 << bit) + near);
            }
        }
        return all.stream().mapToInt(Integer::intValue).toArray();
    }

    /** Three sayings, the last one not ON, a text begun, a told row of 1000. */
    private static ChanceBounds made() {
        ChanceBounds x = Sentences.typed("a 30-40;b if a 50-60;c 1-2;");
        x.read();
        x.on(2, 0);
        Sentences.typeAll(x, "a if");
        x.tell(0, 120);
        x.tell(7, 130);
        return x;
    }

    /** Answers other than the refusal where v is told (low .. high), else the refusal and nothing else. */
    private static void range(String call, long refusal, int low, int high, Call asked) {
        is.of(call + ": a number is not as told");
        String before = Sentences.state(made());
        for (int v : NUMBERS) {
            ChanceBounds x = made();
            long got = asked.answer(x, v);
            if (v >= low && v <= high) {
                is.isTrue(call + " of " + v + " is not refused", got != refusal);
            } else {
                is.due(call + " of " + v, got, refusal);
                is.same(call + " of " + v + " changes nothing", Sentences.state(x), before);
            }
        }
    }

    private static void constants() {
        is.of("BAD = -1, FULL = -3, NONE = -9; NO = -1000000000000000000L");
        is.due("BAD", ChanceBounds.BAD, -1);
        is.due("FULL", ChanceBounds.FULL, -3);
        is.due("NONE", ChanceBounds.NONE, -9);
        is.due("NO", ChanceBounds.NO, -1000000000000000000L);
    }

    private static void numbersOfSayings() {
        range("type(' ', n)", BAD, 1, 8, (x, v) -> x.type(' ', v));
        range("saying(i, 0)", BAD, 0, 2, (x, v) -> x.saying(v, 0));
        range("saying(0, what)", BAD, 0, 4, (x, v) -> x.saying(0, v));
        range("on(i, 0)", BAD, 0, 2, (x, v) -> x.on(v, 0));
        range("on(2, is)", BAD, 0, 1, (x, v) -> x.on(2, v));
        range("move(i, 0, 1)", BAD, 0, 2, (x, v) -> x.move(v, 0, 1));
        range("move(1, what, 55)", BAD, 0, 1, (x, v) -> x.move(1, v, 55));
        range("move(1, 0, v)", BAD, 0, 60, (x, v) -> x.move(1, 0, v));
        range("move(1, 1, v)", BAD, 50, 100, (x, v) -> x.move(1, 1, v));
    }

    private static void numbersOfChances() {
        range("bound(thing, 255, 0, 0)", NO, 0, 255, (x, v) -> x.bound(v, ALL, 0, 0));
        // No ROW gives the empty THING a chance: there it is NONE.
        range("bound(170, other, 1, 1)", NO, 1, 255, (x, v) -> x.bound(A, v, 1, 1));
        range("bound(170, 255, which, 0)", NO, 0, 1, (x, v) -> x.bound(A, ALL, v, 0));
        range("bound(170, 255, 0, what)", NO, 0, 1, (x, v) -> x.bound(A, ALL, 0, v));
        range("differ(thing, 204, 0, 0)", NO, 0, 255, (x, v) -> x.differ(v, B, 0, 0));
        range("differ(170, other, 1, 1)", NO, 0, 255, (x, v) -> x.differ(A, v, 1, 1));
        range("differ(170, 204, which, 0)", NO, 0, 1, (x, v) -> x.differ(A, B, v, 0));
        range("differ(170, 204, 0, what)", NO, 0, 1, (x, v) -> x.differ(A, B, 0, v));
        range("first(world, 0)", NO, 0, 7, (x, v) -> x.first(v, 0));
        range("first(7, what)", NO, 0, 1, (x, v) -> x.first(7, v));
    }

    private static void numbersOfSayingsAmongOneAnother() {
        range("quarrel(what)", BAD, 0, 1, (x, v) -> x.quarrel(v));
        range("follows(i)", BAD, 0, 2, (x, v) -> x.follows(v));
        range("needed(thing, 255, 0)", BAD, 0, 255, (x, v) -> x.needed(v, ALL, 0));
        range("needed(170, other, 1)", BAD, 0, 255, (x, v) -> x.needed(A, v, 1));
        range("needed(170, 255, what)", BAD, 0, 1, (x, v) -> x.needed(A, ALL, v));
        range("gives(i)", BAD, -1, 2, (x, v) -> x.gives(v));
    }

    private static void numbersOfToldRows() {
        range("tell(world, 5)", BAD, 0, 7, (x, v) -> x.tell(v, 5));
        range("tell(0, v)", BAD, 0, 1000, (x, v) -> x.tell(0, v));
        range("pull(thing, 0, 0)", NO, 1, 255, (x, v) -> x.pull(v, 0, 0));
        range("pull(255, world, 1)", NO, 0, 7, (x, v) -> x.pull(ALL, v, 1));
        range("pull(255, 0, what)", NO, 0, 1, (x, v) -> x.pull(ALL, 0, v));
        range("count(what)", BAD, 0, 3, (x, v) -> x.count(v));
    }

    private static void noSuchSaying() {
        is.of("BAD: there is no such thing: a SAYING from how many there are");
        for (int many = 0; many <= 4; many++) {
            for (int i = -2; i <= 33; i++) {
                ChanceBounds x = is.read("a 10-90;".repeat(many));
                boolean isThere = i >= 0 && i < many;
                is.due("saying(" + i + ", 2) of " + many, x.saying(i, 2), isThere ? 10 : BAD);
                is.due("follows(" + i + ") of " + many, x.follows(i), isThere ? many > 1 ? 1 : 0 : BAD);
                is.due("gives(" + i + ") of " + many, x.gives(i), isThere || i == -1 ? 0 : BAD);
                is.due("move(" + i + ", 0, 20) of " + many, x.move(i, 0, 20), isThere ? 10 : BAD);
                is.due("on(" + i + ", 0) of " + many, x.on(i, 0), isThere ? 1 : BAD);
                is.due("ON then", x.count(1), isThere ? many - 1 : many);
            }
        }
    }

    private static void severalAtOnce() {
        is.of("BAD: where several numbers are not as told, and where the answer would be NONE");
        ChanceBounds x = made();
        String before = Sentences.state(x);
        is.due("saying(9, 9)", x.saying(9, 9), BAD);
        is.due("on(-1, 2)", x.on(-1, 2), BAD);
        is.due("move(3, 2, 101)", x.move(3, 2, 101), BAD);
        is.due("bound(256, -1, 2, 2)", x.bound(256, -1, 2, 2), NO);
        is.due("differ(-1, 256, -1, -1)", x.differ(-1, 256, -1, -1), NO);
        is.due("first(8, 2)", x.first(8, 2), NO);
        is.due("needed(256, 256, 2)", x.needed(256, 256, 2), BAD);
        is.due("tell(8, 1001)", x.tell(8, 1001), BAD);
        is.due("pull(256, 8, 2)", x.pull(256, 8, 2), NO);
        is.same("nothing changes", Sentences.state(x), before);
        ChanceBounds none = is.read("a 1-2;a 3-4;");
        is.due("quarrel(2) where there is one", none.quarrel(2), BAD);
        is.due("needed(256, 0, 0)", none.needed(256, 0, 0), BAD);
        none.on(0, 0);
        is.due("quarrel(2) where there is none", none.quarrel(2), BAD);
        is.due("gives(2)", none.gives(2), BAD);
        is.due("gives(0) is none", none.gives(0), Sentences.NONE);
        none.tell(0, 0);
        is.due("pull(256, 0, 0)", none.pull(256, 0, 0), NO);
    }

    private static void asksChangeNothing() {
        is.of("what is asked changes nothing");
        ChanceBounds x = made();
        String before = Sentences.state(x);
        x.could();
        x.bound(A, B, 0, 0);
        x.differ(A, B, 1, 1);
        x.first(3, 0);
        x.never();
        x.quarrel(1);
        x.follows(2);
        x.needed(A, B, 1);
        x.gives(-1);
        x.gives(0);
        x.check();
        x.pull(A, 1, 0);
        is.same("state", Sentences.state(x), before);
    }

    private static void bytesStay() {
        is.of("type: Refused, and nothing changes: the bytes that came stay as they were");
        ChanceBounds x = Sentences.typed(" ".repeat(178) + "a 10-20;b if a 30-40;");
        is.due("199 bytes", x.count(2), 199);
        for (int n = -1; n <= 9; n++) {
            if (n != 1) {
                is.due("type of " + n, x.type(0x3f3f3f3f3f3f3f3fL, n), n >= 1 && n <= 8 ? FULL : BAD);
            }
        }
        is.due("199 bytes still", x.count(2), 199);
        is.due("read", x.read(), 2);
        is.due("X", x.saying(1, 0), B);
        is.due("TO", x.saying(1, 3), 40);
    }

    /** Up to its last call an object answers as a new one does that was told the same. */
    private static void manyCalls() {
        is.of("An object is used for at most 512 calls after it has been made");
        int[] from = {10, 10, 10, 50};
        ChanceBounds old = new ChanceBounds();
        String text = sayings(from);
        int calls = 0;
        for (int at = 0; at < text.length(); at++) {
            is.due("type", old.type(text.charAt(at), 1), ++calls);
        }
        is.due("read", old.read(), 4);
        calls++;
        for (int n = 0; calls + 11 <= 512; n++) {
            int i = n % 4;
            int was = from[i];
            from[i] = 10 + 37 * n % 80;
            is.due("move", old.move(i, 0, from[i]), was);
            for (int call = 0; call < 10; call++) {
                is.due("call " + (calls + 2 + call), asked(old, call, n), asked(is.read(sayings(from)), call, n));
            }
            calls += 11;
        }
        while (calls < 512) {
            is.due("call " + ++calls, old.count(0), 4);
        }
    }

    private static String sayings(int[] from) {
        return "a if b " + from[0] + "-90;b if c " + from[1] + "-90;c if a " + from[2] + "-90;a|b|c " + from[3] + "-90;";
    }

    private static long asked(ChanceBounds x, int call, int n) {
        switch (call) {
            case 0: return x.could();
            case 1: return x.bound(A, ALL, n % 2, 0);
            case 2: return x.bound(A, ALL, n % 2, 1);
            case 3: return x.differ(A, B, n % 2, 1);
            case 4: return x.first(n % 8, 1);
            case 5: return x.never();
            case 6: return x.quarrel(1);
            case 7: return x.follows(n % 4);
            case 8: return x.needed(A, B, 1);
            default: return x.gives(n % 2 == 0 ? -1 : n % 4);
        }
    }
}
