import java.math.BigInteger;
import java.util.ArrayList;
import java.util.List;
import java.util.Random;
import java.util.regex.Matcher;
import java.util.regex.Pattern;

/**
 * Random runs of calls, each answer against a model that is written from the document another way:
 * chances by a simplex method over exact fractions, the text by an automaton with a stack,
 * formulas by rewriting their letters. The seeds are fixed; a first argument sets how many runs,
 * a second one the first seed.
 */
public final class RandomRunsTest {
    private static final int[] ODD = {-1, 256, -2, 8, 101, 1001, 2, 5, 4, Integer.MIN_VALUE, Integer.MAX_VALUE, 1 << 30};

    public static void main(String[] args) {
        int runs = args.length > 0 ? Integer.parseInt(args[0]) : 400;
        long seed = args.length > 1 ? Long.parseLong(args[1]) : 1;
        int wrong = 0;
        long calls = 0;
        for (int run = 0; run < runs && wrong < 5; run++) {
            Run one = new Run(new Random(seed + run));
            if (!one.goes()) {
                wrong++;
                System.out.println("seed " + (seed + run) + ":");
                one.story.forEach(System.out::println);
            }
            calls += one.story.size();
        }
        System.out.println(runs + " random runs, " + calls + " calls, " + wrong + " wrong");
        if (wrong != 0) {
            System.exit(1);
        }
    }

    /** One run of calls on a new object and a new model. */
    private static final class Run {
        final Random random;
        final ChanceBounds real = new ChanceBounds();
        final Model model = new Model();
        final List<String> story = new ArrayList<>();

        Run(Random random) {
            this.random = random;
        }

        boolean goes() {
            boolean even = true;
            for (int n = 0; n < 4 && even; n++) {
                even = readsText() && asks(random.nextInt(30));
            }
            return even;
        }

        boolean readsText() {
            String text = new Texts(random).text();
            for (int at = 0; at < text.length(); ) {
                int n = Math.min(1 + random.nextInt(8), text.length() - at);
                long v = random.nextLong();
                for (int k = 0; k < n; k++) {
                    v = v << 8 | text.charAt(at + k);
                }
                if (!same("type(" + v + ", " + n + ") " + text.substring(at, at + n), real.type(v, n), model.type(v, n))) {
                    return false;
                }
                at += n;
            }
            if (!same("read() \"" + model.text + "\"", real.read(), model.read())) {
                return false;
            }
            return random.nextInt(10) == 0 || same("clear()", real.clear(), model.clear());
        }

        boolean asks(int times) {
            for (int n = 0; n < times; n++) {
                if (!asksOnce()) {
                    return false;
                }
            }
            return true;
        }

        boolean asksOnce() {
            int i = below(Math.max(model.sayings.size(), 1));
            int what = below(2);
            int which = below(2);
            int thing = thing();
            int other = thing();
            int world = below(8);
            int v;
            switch (random.nextInt(18)) {
                case 0: what = below(5); return same("saying(" + i + ", " + what + ")", real.saying(i, what), model.saying(i, what));
                case 1: return same("on(" + i + ", " + what + ")", real.on(i, what), model.on(i, what));
                case 2: v = below(101); return same("move(" + i + ", " + what + ", " + v + ")", real.move(i, what, v), model.move(i, what, v));
                case 3: return same("could()", real.could(), model.could());
                case 4: case 5: return same("bound(" + thing + ", " + other + ", " + which + ", " + what + ")", real.bound(thing, other, which, what), model.bound(thing, other, which, what));
                case 6: return same("differ(" + thing + ", " + other + ", " + which + ", " + what + ")", real.differ(thing, other, which, what), model.differ(thing, other, which, what));
                case 7: case 8: return same("first(" + world + ", " + what + ")", real.first(world, what), model.first(world, what));
                case 9: return same("never()", real.never(), model.never());
                case 10: return same("quarrel(" + what + ")", real.quarrel(what), model.quarrel(what));
                case 11: return same("follows(" + i + ")", real.follows(i), model.follows(i));
                case 12: return same("needed(" + thing + ", " + other + ", " + what + ")", real.needed(thing, other, what), model.needed(thing, other, what));
                case 13: v = random.nextInt(3) == 0 ? -1 : i; return same("gives(" + v + ")", real.gives(v), model.gives(v));
                case 14: v = below(1001); return same("tell(" + world + ", " + v + ")", real.tell(world, v), model.tell(world, v));
                case 15: return evensOut() && same("check()", real.check(), model.check());
                case 16: return same("pull(" + thing + ", " + world + ", " + what + ")", real.pull(thing, world, what), model.pull(thing, world, what));
                default: what = below(4); return same("count(" + what + ")", real.count(what), model.count(what));
            }
        }

        /** Most random rows are not 1000 together: spread 1000 anew now and then. */
        boolean evensOut() {
            if (random.nextInt(2) == 0) {
                return true;
            }
            int left = 1000;
            for (int world = 0; world < 8; world++) {
                int v = world == 7 ? left : random.nextInt(3) == 0 ? 0 : random.nextInt(left + 1);
                left -= v;
                if (!same("tell(" + world + ", " + v + ")", real.tell(world, v), model.tell(world, v))) {
                    return false;
                }
            }
            return true;
        }

        int thing() {
            int[] common = {255, 170, 204, 240, 136, 238, 0, 1, 128};
            return random.nextInt(4) == 0 ? common[random.nextInt(common.length)] : below(256);
        }

        int below(int bound) {
            return random.nextInt(40) == 0 ? ODD[random.nextInt(ODD.length)] : random.nextInt(bound);
        }

        boolean same(String call, long got, long due) {
            story.add("  " + call + " = " + got + (got == due ? "" : ", due is " + due));
            return got == due;
        }
    }

    /** Texts of sayings, some of them spoilt. */
    private static final class Texts {
        final Random random;
        int letters;

        Texts(Random random) {
            this.random = random;
        }

        String text() {
            StringBuilder text = new StringBuilder();
            int sayings = random.nextInt(8) == 0 ? random.nextInt(7) : 1 + random.nextInt(4);
            boolean isPlain = random.nextInt(3) != 0;
            for (int i = 0; i < sayings; i++) {
                text.append(saying(isPlain));
            }
            if (random.nextInt(4) == 0) {
                spoil(text);
            }
            return text.toString();
        }

        String saying(boolean isPlain) {
            int from = hundredths();
            int to = hundredths();
            if (from > to && random.nextInt(60) != 0) {
                int swap = from;
                from = to;
                to = swap;
            }
            String x = formula(isPlain);
            String y = random.nextInt(5) < 3 ? " if " + formula(isPlain) : "";
            return x + y + gap() + from + gap() + "-" + gap() + to + gap() + ";" + gap();
        }

        int hundredths() {
            int[] common = {0, 100, 50, 1, 99};
            return random.nextInt(3) == 0 ? common[random.nextInt(common.length)] : random.nextInt(101);
        }

        String gap() {
            return random.nextInt(6) == 0 ? " " : "";
        }

        String formula(boolean isPlain) {
            letters = isPlain ? 1 + random.nextInt(4) : 1 + random.nextInt(14);
            return joined(random.nextInt(3), "|");
        }

        String joined(int depth, String sign) {
            StringBuilder all = new StringBuilder();
            do {
                all.append(all.length() == 0 ? "" : gap() + sign + gap());
                all.append(sign.equals("|") ? joined(depth, "&") : factor(depth));
            } while (letters > 0 && random.nextInt(2) == 0);
            return all.toString();
        }

        String factor(int depth) {
            if (depth < 8 && random.nextInt(4) == 0) {
                return "!" + gap() + factor(depth + 1);
            }
            if (depth < 8 && letters > 1 && random.nextInt(3) == 0) {
                return "(" + gap() + joined(depth + 1, "|") + gap() + ")";
            }
            letters--;
            return "abc".substring(random.nextInt(3)).substring(0, 1);
        }

        void spoil(StringBuilder text) {
            String[] pieces = {"!", "&", "|", "(", ")", "-", ";", "if", "a", "b", "c", "0", "7", "100", "101", "999",
                "1000", "00", "01", " ", "d", "ab", "A", "~", "\t", "\u00e9", "\u0000", "i", "!!!!!!", "((((((", "5-6", "12345678901234567890"};
            int times = 1 + random.nextInt(2);
            for (int n = 0; n < times; n++) {
                int at = random.nextInt(text.length() + 1);
                switch (random.nextInt(4)) {
                    case 0: text.insert(at, pieces[random.nextInt(pieces.length)]); break;
                    case 1: text.setLength(at); break;
                    case 2: if (at < text.length()) text.deleteCharAt(at); break;
                    default: if (at < text.length()) text.replace(at, at + 1, pieces[random.nextInt(pieces.length)]);
                }
            }
        }
    }

    /** What the document says, as plainly as can be. */
    private static final class Model {
        static final long NO = -1000000000000000000L;
        final StringBuilder text = new StringBuilder();
        List<int[]> sayings = new ArrayList<>();
        final int[] told = {125, 125, 125, 125, 125, 125, 125, 125};

        long type(long v, int n) {
            if (n < 1 || n > 8) return -1;
            if (text.length() + n > 200) return -3;
            BigInteger bits = BigInteger.valueOf(v);
            for (int k = n - 1; k >= 0; k--) {
                text.append((char) bits.shiftRight(8 * k).and(BigInteger.valueOf(255)).intValue());
            }
            return text.length();
        }

        long clear() {
            int had = text.length();
            text.setLength(0);
            return had;
        }

        long read() {
            Automaton automaton = new Automaton();
            int fault = automaton.run(text.toString());
            if (fault >= 0) return -10 - fault;
            sayings = automaton.sayings;
            text.setLength(0);
            return sayings.size();
        }

        boolean isSaying(int i) {
            return 0 <= i && i < sayings.size();
        }

        static boolean in(int low, int v, int high) {
            return low <= v && v <= high;
        }

        long saying(int i, int what) {
            return isSaying(i) && in(0, what, 4) ? sayings.get(i)[what] : -1;
        }

        long on(int i, int is) {
            if (!isSaying(i) || !in(0, is, 1)) return -1;
            int was = sayings.get(i)[4];
            sayings.get(i)[4] = is;
            return was;
        }

        long move(int i, int what, int v) {
            if (!isSaying(i) || !in(0, what, 1) || !in(0, v, 100)) return -1;
            int[] changed = sayings.get(i).clone();
            changed[2 + what] = v;
            if (changed[2] > changed[3]) return -1;
            return sayings.set(i, changed)[2 + what];
        }

        List<int[]> on() {
            return of((1 << sayings.size()) - 1);
        }

        /** Those of a set that are ON. */
        List<int[]> of(int set) {
            List<int[]> some = new ArrayList<>();
            for (int i = 0; i < sayings.size(); i++) {
                if ((set >> i & 1) == 1 && sayings.get(i)[4] == 1) some.add(sayings.get(i));
            }
            return some;
        }

        int onBits() {
            int set = 0;
            for (int i = 0; i < sayings.size(); i++) set |= sayings.get(i)[4] << i;
            return set;
        }

        static long part(Q q, int what) {
            return q == null ? NO : (what == 0 ? q.n : q.d).longValueExact();
        }

        static int[] of(int thing, int times) {
            int[] row = new int[8];
            for (int w = 0; w < 8; w++) row[w] = (thing >> w & 1) * times;
            return row;
        }

        static int[] sum(int[] a, int[] b) {
            int[] row = new int[8];
            for (int w = 0; w < 8; w++) row[w] = a[w] + b[w];
            return row;
        }

        static int[] overFrom(int[] s) {
            return sum(of(s[0] & s[1], 100), of(s[1], -s[2]));
        }

        static int[] underTo(int[] s) {
            return sum(of(s[1], s[3]), of(s[0] & s[1], -100));
        }

        /** A program over rows in which a set of worlds weighs 1 and the sayings hold. */
        static Simplex rows(List<int[]> by, int unit) {
            Simplex simplex = new Simplex();
            simplex.equal(of(unit, 1), Q.ONE);
            for (int[] s : by) {
                simplex.atLeastZero(overFrom(s));
                simplex.atLeastZero(underTo(s));
            }
            return simplex;
        }

        static boolean can(List<int[]> by) {
            return rows(by, 255).greatest(new int[8]) != null;
        }

        long could() {
            return can(on()) ? 1 : 0;
        }

        static Q extreme(Simplex simplex, int[] aim, int which) {
            if (which == 1) return simplex.greatest(aim);
            int[] turned = new int[8];
            for (int w = 0; w < 8; w++) turned[w] = -aim[w];
            Q q = simplex.greatest(turned);
            return q == null ? null : q.times(Q.of(-1));
        }

        /** Sayings hold in a row as in its multiples, so the other thing may weigh 1. */
        static Q share(List<int[]> by, int thing, int other, int which) {
            return extreme(rows(by, other), of(thing & other, 1), which);
        }

        long bound(int thing, int other, int which, int what) {
            if (!in(0, thing, 255) || !in(0, other, 255) || !in(0, which, 1) || !in(0, what, 1)) return NO;
            return part(share(on(), thing, other, which), what);
        }

        long differ(int thing, int other, int which, int what) {
            if (!in(0, thing, 255) || !in(0, other, 255) || !in(0, which, 1) || !in(0, what, 1)) return NO;
            return part(extreme(rows(on(), 255), sum(of(thing, 1), of(other, -1)), which), what);
        }

        long first(int world, int what) {
            if (!in(0, world, 7) || !in(0, what, 1)) return NO;
            Simplex simplex = rows(on(), 255);
            Q least = null;
            for (int w = 0; w <= world; w++) {
                least = extreme(simplex, of(1 << w, 1), 0);
                if (least == null) return NO;
                simplex.equal(of(1 << w, 1), least);
            }
            return part(least, what);
        }

        long never() {
            int set = 0;
            for (int w = 0; w < 8; w++) {
                Q q = rows(on(), 255).greatest(of(1 << w, 1));
                if (q == null || q.n.signum() == 0) set |= 1 << w;
            }
            return set;
        }

        /** All sets of those that are ON: the fewest first, of as many the least first. */
        List<Integer> sets() {
            List<Integer> sets = new ArrayList<>();
            for (int size = 0; size <= 4; size++) {
                for (int set = 0; set < 16; set++) {
                    if (Integer.bitCount(set) == size && (set & ~onBits()) == 0) sets.add(set);
                }
            }
            return sets;
        }

        long quarrel(int what) {
            if (!in(0, what, 1)) return -1;
            for (int set : sets()) {
                if (!can(of(set))) return what == 0 ? Integer.bitCount(set) : set;
            }
            return -9;
        }

        long follows(int i) {
            if (!isSaying(i)) return -1;
            List<int[]> others = of(~(1 << i));
            Q low = extreme(rows(others, 255), overFrom(sayings.get(i)), 0);
            Q high = extreme(rows(others, 255), underTo(sayings.get(i)), 0);
            return low == null || (low.n.signum() >= 0 && high.n.signum() >= 0) ? 1 : 0;
        }

        static boolean same(Q a, Q b) {
            return a == null || b == null ? a == b : a.minus(b).n.signum() == 0;
        }

        long needed(int thing, int other, int what) {
            if (!in(0, thing, 255) || !in(0, other, 255) || !in(0, what, 1)) return -1;
            Q least = share(on(), thing, other, 0);
            Q greatest = share(on(), thing, other, 1);
            for (int set : sets()) {
                if (same(share(of(set), thing, other, 0), least) && same(share(of(set), thing, other, 1), greatest)) {
                    return what == 0 ? Integer.bitCount(set) : set;
                }
            }
            throw new IllegalStateException("all tell as much as all");
        }

        long gives(int i) {
            if (i != -1 && !isSaying(i)) return -1;
            if (i != -1 && sayings.get(i)[4] == 0) return -9;
            for (int by = 0; by <= 100; by++) {
                List<int[]> loose = new ArrayList<>();
                for (int j = 0; j < sayings.size(); j++) {
                    int[] s = sayings.get(j).clone();
                    if (i == -1 || i == j) {
                        s[2] = Math.max(0, s[2] - by);
                        s[3] = Math.min(100, s[3] + by);
                    }
                    if (s[4] == 1) loose.add(s);
                }
                if (can(loose)) return by;
            }
            return -9;
        }

        long tell(int world, int v) {
            if (!in(0, world, 7) || !in(0, v, 1000)) return -1;
            int was = told[world];
            told[world] = v;
            return was;
        }

        int weight(int[] row) {
            int all = 0;
            for (int w = 0; w < 8; w++) all += row[w] * told[w];
            return all;
        }

        long check() {
            if (weight(of(255, 1)) != 1000) return -1;
            return on().stream().filter(s -> weight(overFrom(s)) < 0 || weight(underTo(s)) < 0).count();
        }

        long pull(int thing, int world, int what) {
            if (!in(0, thing, 255) || !in(0, world, 7) || !in(0, what, 1)) return NO;
            int whole = weight(of(thing, 1));
            if (weight(of(255, 1)) != 1000 || whole == 0) return NO;
            return part(Q.of(weight(of(thing & 1 << world, 1))).over(Q.of(whole)), what);
        }

        long count(int what) {
            switch (what) {
                case 0: return sayings.size();
                case 1: return on().size();
                case 2: return text.length();
                case 3: return weight(of(255, 1));
                default: return -1;
            }
        }
    }

    /** Reads sayings with a stack of what is open; formulas are kept as text and rewritten. */
    private static final class Automaton {
        static final Pattern TOKEN = Pattern.compile("([a-z]+)|([0-9]+)|([!&|();-])");
        final List<int[]> sayings = new ArrayList<>();
        final StringBuilder open = new StringBuilder();
        StringBuilder formula = new StringBuilder();
        String state = "start";
        boolean isSecond;
        int[] saying;

        int run(String text) {
            Matcher matcher = TOKEN.matcher(text);
            int at = 0;
            while (at < text.length()) {
                if (text.charAt(at) == ' ') {
                    at++;
                } else if (matcher.find(at) && matcher.start() == at && takes(matcher.group())) {
                    at = matcher.end();
                } else {
                    return at;
                }
            }
            return state.equals("start") ? -1 : text.length();
        }

        boolean takes(String token) {
            switch (state) {
                case "start":
                    saying = new int[] {0, 255, 0, 0, 1};
                    isSecond = false;
                    formula.setLength(0);
                    return sayings.size() < 4 && takesFactor(token);
                case "factor": return takesFactor(token);
                case "behind": return takesBehind(token);
                case "minus": state = "to"; return token.equals("-");
                case "to": state = "end"; return takesNumber(token, 3) && saying[3] >= saying[2];
                default: state = "start"; sayings.add(saying); return token.equals(";");
            }
        }

        boolean takesFactor(String token) {
            state = "factor";
            formula.append(token);
            if (token.equals("!") || token.equals("(")) {
                open.append(token);
                return open.length() <= 6;
            }
            state = "behind";
            closeNots();
            return token.matches("[abc]") && formula.toString().replaceAll("[^abc]", "").length() <= 12;
        }

        void closeNots() {
            while (open.length() > 0 && open.charAt(open.length() - 1) == '!') {
                open.setLength(open.length() - 1);
            }
        }

        boolean takesBehind(String token) {
            if (token.equals("&") || token.equals("|")) {
                formula.append(token);
                state = "factor";
                return true;
            }
            if (token.equals(")")) {
                if (open.length() == 0) return false;
                formula.append(token);
                open.setLength(open.length() - 1);
                closeNots();
                return true;
            }
            if (open.length() > 0 || (token.equals("if") && isSecond)) return false;
            saying[isSecond ? 1 : 0] = worlds(formula.toString());
            if (token.equals("if")) {
                isSecond = true;
                formula.setLength(0);
                state = "factor";
                return true;
            }
            state = "minus";
            return takesNumber(token, 2);
        }

        boolean takesNumber(String token, int part) {
            if (!token.matches("0|[1-9][0-9]?|100")) return false;
            saying[part] = Integer.parseInt(token);
            return true;
        }

        static int worlds(String formula) {
            int set = 0;
            for (int w = 0; w < 8; w++) {
                String told = formula.replace("a", "" + (w & 1)).replace("b", "" + (w >> 1 & 1)).replace("c", "" + (w >> 2));
                set |= Integer.parseInt(rewritten(told)) << w;
            }
            return set;
        }

        static String rewritten(String told) {
            String[][] rules = {{"!0", "1"}, {"!1", "0"}, {"\\(([01])\\)", "$1"}, {"0&[01]", "0"}, {"1&([01])", "$1"},
                {"(?<![&!])0\\|([01])(?!&)", "$1"}, {"(?<![&!])1\\|[01](?!&)", "1"}};
            String now = told;
            for (int rule = 0; rule < rules.length; rule++) {
                String then = now.replaceFirst(rules[rule][0], rules[rule][1]);
                if (!then.equals(now)) {
                    now = then;
                    rule = -1;
                }
            }
            return now;
        }
    }

    /** The greatest of a sum over eight numbers that are not below 0, by Bland's rule. */
    private static final class Simplex {
        final List<int[]> rows = new ArrayList<>();
        final List<Q> dues = new ArrayList<>();
        final List<Boolean> slack = new ArrayList<>();

        void equal(int[] row, Q due) {
            rows.add(row);
            dues.add(due);
            slack.add(false);
        }

        void atLeastZero(int[] row) {
            rows.add(row);
            dues.add(Q.ZERO);
            slack.add(true);
        }

        /** null: nothing is feasible. */
        Q greatest(int[] aim) {
            int m = rows.size();
            int real = 8 + m;
            Q[][] t = new Q[m + 1][real + m + 1];
            int[] basis = new int[m];
            for (int r = 0; r < m; r++) {
                for (int c = 0; c <= real + m; c++) t[r][c] = Q.ZERO;
                for (int w = 0; w < 8; w++) t[r][w] = Q.of(rows.get(r)[w]);
                if (slack.get(r)) t[r][8 + r] = Q.of(-1);
                t[r][real + r] = Q.ONE;
                t[r][real + m] = dues.get(r);
                basis[r] = real + r;
            }
            // First the artificial columns go out, then the aim is put in terms of the basis.
            for (int c = 0; c <= real + m; c++) {
                Q sum = Q.ZERO;
                for (int r = 0; r < m; r++) if (c < real || c == real + m) sum = sum.minus(t[r][c]);
                t[m][c] = sum;
            }
            solve(t, basis, real);
            if (t[m][real + m].n.signum() != 0) return null;
            for (int r = 0; r < m; r++) {
                for (int c = 0; c < real && basis[r] >= real; c++) {
                    if (t[r][c].n.signum() != 0) pivot(t, basis, r, c);
                }
            }
            for (int c = 0; c <= real + m; c++) t[m][c] = c < 8 ? Q.of(-aim[c]) : Q.ZERO;
            for (int r = 0; r < m; r++) {
                if (basis[r] >= real) continue;
                Q times = t[m][basis[r]];
                for (int c = 0; c <= real + m; c++) t[m][c] = t[m][c].minus(times.times(t[r][c]));
            }
            solve(t, basis, real);
            return t[m][real + m];
        }

        static void solve(Q[][] t, int[] basis, int columns) {
            int last = t[0].length - 1;
            while (true) {
                int c = 0;
                while (c < columns && t[basis.length][c].n.signum() >= 0) c++;
                if (c == columns) return;
                int best = -1;
                for (int r = 0; r < basis.length; r++) {
                    if (t[r][c].n.signum() <= 0) continue;
                    int sign = best < 0 ? -1 : t[r][last].over(t[r][c]).minus(t[best][last].over(t[best][c])).n.signum();
                    if (sign < 0 || (sign == 0 && basis[r] < basis[best])) best = r;
                }
                if (best < 0) throw new IllegalStateException("no greatest");
                pivot(t, basis, best, c);
            }
        }

        static void pivot(Q[][] t, int[] basis, int r, int c) {
            Q by = t[r][c];
            for (int k = 0; k < t[r].length; k++) t[r][k] = t[r][k].over(by);
            for (int q = 0; q < t.length; q++) {
                Q times = t[q][c];
                if (q == r || times.n.signum() == 0) continue;
                for (int k = 0; k < t[q].length; k++) t[q][k] = t[q][k].minus(times.times(t[r][k]));
            }
            basis[r] = c;
        }
    }

    /** An exact fraction in least terms. */
    private static final class Q {
        static final Q ZERO = of(0);
        static final Q ONE = of(1);
        final BigInteger n;
        final BigInteger d;

        Q(BigInteger n, BigInteger d) {
            BigInteger by = n.gcd(d).multiply(BigInteger.valueOf(d.signum()));
            this.n = n.divide(by);
            this.d = d.divide(by);
        }

        static Q of(long v) {
            return new Q(BigInteger.valueOf(v), BigInteger.ONE);
        }

        Q minus(Q q) {
            if (q.n.signum() == 0) return this;
            return new Q(n.multiply(q.d).subtract(q.n.multiply(d)), d.multiply(q.d));
        }

        Q times(Q q) {
            if (n.signum() == 0 || q.n.signum() == 0) return ZERO;
            return new Q(n.multiply(q.n), d.multiply(q.d));
        }

        Q over(Q q) {
            if (n.signum() == 0) return ZERO;
            return new Q(n.multiply(q.d), d.multiply(q.n));
        }
    }
}
