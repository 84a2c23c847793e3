import java.math.BigInteger;
import java.util.ArrayList;
import java.util.Arrays;
import java.util.List;
import java.util.function.IntBinaryOperator;
import java.util.function.ToIntFunction;

/**
 * The document once more, written as plainly as can be and with no thought of room or time: tenth by tenth, with
 * trees of functions for texts and whole fractions. ModelTest holds the class against it.
 */
final class Model {
    static final long NO = -4611686018427387904L;

    /** What a name stands for: notch, after, off, over, more, price. */
    interface E extends ToIntFunction<int[]> {
    }

    static final class Fault extends RuntimeException {
        private static final long serialVersionUID = 1;
        final int place;

        Fault(int place) {
            super(null, null, false, false);
            this.place = place;
        }
    }

    record Token(String is, int place) {
    }

    record Text(E runs, E late, E costs) {
    }

    record Frac(BigInteger above, BigInteger below) {
        static Frac of(long above, long below) {
            return new Frac(BigInteger.valueOf(above), BigInteger.valueOf(below));
        }

        int compare(Frac o) {
            return above.multiply(o.below).compareTo(o.above.multiply(below));
        }

        Frac plus(Frac o) {
            return new Frac(above.multiply(o.below).add(o.above.multiply(below)), below.multiply(o.below));
        }

        Frac times(Frac o) {
            return new Frac(above.multiply(o.above), below.multiply(o.below));
        }

        long part(int part) {
            BigInteger common = above.gcd(below);
            return (part == 0 ? above : below).divide(common).longValueExact();
        }
    }

    static final class Hand implements Cloneable {
        int kind, more, ahead, change;

        @Override
        public Hand clone() {
            Hand h = new Hand();
            h.kind = kind;
            h.more = more;
            h.ahead = ahead;
            h.change = change;
            return h;
        }
    }

    static final class Image {
        int mark, drips, price, fullAt, slips, just, spent, law;
        List<int[]> hands = new ArrayList<>();
    }

    int mark = 500, drips = 1, price = 40, fullAt = 5000;
    int slips, just, spent, law;
    List<Hand> hands = new ArrayList<>();
    List<Text> texts = new ArrayList<>();
    List<Integer> tape = new ArrayList<>();
    int[][] sheets = new int[4][];
    int[] sorts = {-1, -1, -1, -1};
    Image image;

    Model() {
        for (char c : "runs notch*notch*3; late 3-after; costs off*off;".toCharArray()) tape.add((int) c);
        text();
    }

    // ---- texts

    private List<Token> tokens;
    private int at;

    private static final List<String> WORDS = List.of("runs", "late", "costs", "not", "and", "or",
            "notch", "after", "off", "over", "more", "price");

    private static List<Token> tokensOf(List<Integer> tape) {
        List<Token> all = new ArrayList<>();
        int i = 0;
        while (i < tape.size()) {
            int b = tape.get(i);
            int j = i + 1;
            if (b == 32 || b == 10) {
                i++;
                continue;
            }
            String is;
            if (b >= 97 && b <= 122) {
                while (j < tape.size() && tape.get(j) >= 97 && tape.get(j) <= 122) j++;
                is = string(tape.subList(i, j));
                if (!WORDS.contains(is)) is = "?";
            } else if (b >= 48 && b <= 57) {
                while (j < tape.size() && tape.get(j) >= 48 && tape.get(j) <= 57) j++;
                is = j - i > 4 ? "?" : string(tape.subList(i, j));
            } else {
                is = "();+-*<=".indexOf(b) >= 0 ? "" + (char) b : "?";
            }
            all.add(new Token(is, i));
            i = j;
        }
        all.add(new Token("", tape.size()));
        return all;
    }

    private static String string(List<Integer> bytes) {
        StringBuilder s = new StringBuilder();
        for (int b : bytes) s.append((char) b);
        return s.toString();
    }

    private boolean sees(String is) {
        return tokens.get(at).is().equals(is);
    }

    private Fault fault() {
        return new Fault(tokens.get(at).place());
    }

    private void must(String is) {
        if (!sees(is)) throw fault();
        at++;
    }

    private void mayOpen(int open) {
        if (open == 5) throw fault();
    }

    private static E joined(E a, E b, IntBinaryOperator by) {
        return n -> by.applyAsInt(a.applyAsInt(n), b.applyAsInt(n));
    }

    private Text readText() {
        must("runs");
        E runs = e(0);
        must(";");
        must("late");
        E late = e(0);
        must(";");
        must("costs");
        E costs = e(0);
        must(";");
        if (!sees("")) throw fault();
        return new Text(runs, late, costs);
    }

    private E e(int open) {
        E one = and(open);
        while (sees("or")) {
            at++;
            one = joined(one, and(open), (a, b) -> a != 0 || b != 0 ? 1 : 0);
        }
        return one;
    }

    private E and(int open) {
        E one = not(open);
        while (sees("and")) {
            at++;
            one = joined(one, not(open), (a, b) -> a != 0 && b != 0 ? 1 : 0);
        }
        return one;
    }

    private E not(int open) {
        if (sees("not")) {
            mayOpen(open);
            at++;
            E of = not(open + 1);
            return n -> of.applyAsInt(n) == 0 ? 1 : 0;
        }
        E one = sum(open);
        if (sees("<")) {
            at++;
            return joined(one, sum(open), (a, b) -> a < b ? 1 : 0);
        }
        if (sees("=")) {
            at++;
            return joined(one, sum(open), (a, b) -> a == b ? 1 : 0);
        }
        return one;
    }

    private E sum(int open) {
        E one = term(open);
        while (sees("+") || sees("-")) {
            boolean plus = sees("+");
            at++;
            one = joined(one, term(open), plus ? (a, b) -> a + b : (a, b) -> a - b);
        }
        return one;
    }

    private E term(int open) {
        E one = one(open);
        while (sees("*")) {
            at++;
            one = joined(one, one(open), (a, b) -> a * b);
        }
        return one;
    }

    private E one(int open) {
        if (sees("-")) {
            mayOpen(open);
            at++;
            E of = one(open + 1);
            return n -> -of.applyAsInt(n);
        }
        if (sees("(")) {
            mayOpen(open);
            at++;
            E of = e(open + 1);
            must(")");
            return of;
        }
        String is = tokens.get(at).is();
        int name = WORDS.indexOf(is) - 6;
        if (name >= 0) {
            at++;
            return n -> n[name];
        }
        if (!is.isEmpty() && Character.isDigit(is.charAt(0))) {
            at++;
            int v = Integer.parseInt(is);
            return n -> v;
        }
        throw fault();
    }

    int text() {
        if (texts.size() == 6) return -4;
        tokens = tokensOf(tape);
        at = 0;
        tape.clear();
        try {
            texts.add(readText());
            return texts.size() - 1;
        } catch (Fault f) {
            return -100 - f.place;
        }
    }

    int runs(Text t, int notch, int more) {
        return Math.min(50, Math.max(1, t.runs.applyAsInt(new int[] {notch, 0, 0, 0, more, price})));
    }

    int late(Text t, int notch, int after, int more) {
        return Math.min(9, Math.max(0, t.late.applyAsInt(new int[] {notch, after, 0, 0, more, price})));
    }

    int costs(Text t, int sum, int towards, int more) {
        int off = Math.min(999, Math.abs(sum - towards));
        int over = sum > towards ? 1 : 0;
        return Math.min(999, Math.max(0, t.costs.applyAsInt(new int[] {0, 0, off, over, more, price})));
    }

    // ---- stops

    static boolean isA(int kind, int of) {
        int[][] are = {{0}, {0, 1}, {0, 2}, {0, 1, 3}, {0, 2, 4}, {0, 5}};
        return Arrays.stream(are[kind]).anyMatch(k -> k == of);
    }

    static int notch(Hand h, int lacking) {
        return switch (h.kind) {
            case 0 -> 2;
            case 1, 3 -> 1;
            case 2, 4 -> lacking > h.change ? 3 : 1;
            default -> 3;
        };
    }

    int often(Text t, Hand h, int notch, int a) {
        int said = late(t, notch, a, h.more);
        return switch (h.kind) {
            case 0, 1 -> said;
            case 2, 4 -> a == 0 ? 0 : said + h.more / 4;
            case 3 -> a > 1 ? 0 : said + 1;
            default -> 1 + a * h.more / 3;
        };
    }

    final class Stop {
        int[] end = new int[5], tenths = new int[5], often = new int[5];
        int notch, all;

        Stop(Hand h, Text t, int towards, int start) {
            int sum = Math.min(start, fullAt), time = 0;
            notch = Model.notch(h, towards - sum);
            while (towards - sum > h.ahead && sum < fullAt && time < 2000) {
                notch = Model.notch(h, towards - sum);
                sum = Math.min(fullAt, sum + runs(t, notch, h.more));
                time++;
            }
            for (int a = 0; a < 5; a++) {
                int s = sum, tm = time;
                for (int i = 0; i < a; i++) {
                    s = Math.min(fullAt, s + runs(t, notch, h.more));
                    tm++;
                }
                s = Math.min(fullAt, s + drips);
                for (int touches = 0; h.kind == 4 && touches < 30 && s < towards && s < fullAt; touches++) {
                    s = Math.min(fullAt, s + (towards - s > 10 ? 3 + h.more / 3 : 1));
                    tm += 5;
                }
                end[a] = s;
                tenths[a] = tm;
                often[a] = Model.this.often(t, h, notch, a);
                all += often[a];
            }
            if (all == 0) {
                often[0] = 1;
                all = 1;
            }
        }

        Frac likely(int sum) {
            long n = 0;
            for (int a = 0; a < 5; a++) n += end[a] == sum ? often[a] : 0;
            return Frac.of(n, all);
        }

        Frac likelyAbove(int sum) {
            long n = 0;
            for (int a = 0; a < 5; a++) n += end[a] > sum ? often[a] : 0;
            return Frac.of(n, all);
        }

        Frac likelyBelow(int sum) {
            long n = 0;
            for (int a = 0; a < 5; a++) n += end[a] < sum ? often[a] : 0;
            return Frac.of(n, all);
        }

        Frac meanCost(Text t, Hand h, int towards) {
            long n = 0;
            for (int a = 0; a < 5; a++) n += (long) often[a] * costs(t, end[a], towards, h.more);
            return Frac.of(n, all);
        }

        Frac meanTenths() {
            long n = 0;
            for (int a = 0; a < 5; a++) n += (long) often[a] * tenths[a];
            return Frac.of(n, all);
        }

        int drawn(long seed) {
            long lot = (seed + 1) * 48271 % 2147483647L % all, n = 0;
            for (int a = 0; a < 5; a++) {
                n += often[a];
                if (n > lot) return a;
            }
            throw new IllegalStateException();
        }
    }

    Text theLaw() {
        return texts.get(law);
    }

    Stop stop(Hand h) {
        return new Stop(h, theLaw(), mark, 0);
    }

    boolean noHand(int h) {
        return h < 0 || h >= hands.size();
    }

    static boolean out(int v, int least, int most) {
        return v < least || v > most;
    }

    // ---- the calls, in the document's order

    int count(int what) {
        int[] all = {hands.size(), mark, drips, price, fullAt, texts.size(), law, tape.size()};
        return out(what, 0, 7) ? -2 : all[what];
    }

    int set(int what, int v) {
        if (out(what, 0, 3)) return -5;
        if (out(v, what == 1 ? 0 : 1, new int[] {2000, 9, 99, 5000}[what])) return -7;
        int was = count(what + 1);
        if (what == 0) mark = v;
        if (what == 1) drips = v;
        if (what == 2) price = v;
        if (what == 3) fullAt = v;
        return was;
    }

    int feed(int n, int a, int b, int c, int d, int e) {
        int[] five = {a, b, c, d, e};
        if (out(n, 1, 5)) return -2;
        for (int v : five) if (out(v, 0, 255)) return -2;
        if (tape.size() + n > 160) return -4;
        for (int i = 0; i < n; i++) tape.add(five[i]);
        return tape.size();
    }

    int force(int t) {
        if (out(t, 0, texts.size() - 1)) return -2;
        int was = law;
        law = t;
        return was;
    }

    int asks(int part, int notchAfter, int offOver, int more) {
        if (out(part, 0, 2) || notchAfter < 0 || out(notchAfter / 10, 1, 3) || out(notchAfter % 10, 0, 4)) return -2;
        if (offOver < 0 || out(offOver / 10, 0, 999) || out(offOver % 10, 0, 1) || out(more, 0, 9)) return -2;
        int[] names = {notchAfter / 10, notchAfter % 10, offOver / 10, offOver % 10, more, price};
        Text t = theLaw();
        if (part == 0) return Math.min(50, Math.max(1, t.runs.applyAsInt(names)));
        if (part == 1) return Math.min(9, Math.max(0, t.late.applyAsInt(names)));
        return Math.min(999, Math.max(0, t.costs.applyAsInt(names)));
    }

    int hand(int kindMore, int ahead, int change) {
        if (out(kindMore, 0, 59) || out(ahead, 0, 99) || out(change, 0, 500)) return -2;
        if (hands.size() == 5) return -4;
        Hand h = new Hand();
        h.kind = kindMore / 10;
        h.more = kindMore % 10;
        h.ahead = ahead;
        h.change = change;
        hands.add(h);
        return hands.size() - 1;
    }

    int train(int h, int what, int v) {
        if (noHand(h)) return -5;
        if (out(what, 0, 1) || out(v, 0, what == 0 ? 99 : 500)) return -7;
        Hand hand = hands.get(h);
        int was = what == 0 ? hand.ahead : hand.change;
        if (what == 0) hand.ahead = v;
        if (what == 1) hand.change = v;
        return was;
    }

    int told(int h, int what) {
        if (noHand(h)) return -5;
        if (out(what, 0, 3)) return -7;
        Hand hand = hands.get(h);
        return new int[] {hand.kind, hand.more, hand.ahead, hand.change}[what];
    }

    int stops(int h, int after, int what) {
        if (noHand(h)) return -5;
        if (out(after, 0, 4) || out(what, 0, 3)) return -7;
        Stop s = stop(hands.get(h));
        return new int[] {s.end[after], s.tenths[after], s.often[after], s.notch}[what];
    }

    long chance(int h, int sort, int part) {
        if (noHand(h) || out(sort, 0, 2) || out(part, 0, 1)) return NO;
        Stop s = stop(hands.get(h));
        return (sort == 0 ? s.likely(mark) : sort == 1 ? s.likelyAbove(mark) : s.likelyBelow(mark)).part(part);
    }

    long mean(int h, int part) {
        if (noHand(h) || out(part, 0, 1)) return NO;
        return stop(hands.get(h)).meanCost(theLaw(), hands.get(h), mark).part(part);
    }

    long time(int h, int part) {
        if (noHand(h) || out(part, 0, 1)) return NO;
        return stop(hands.get(h)).meanTenths().part(part);
    }

    long at(int h, int end, int part) {
        if (noHand(h) || out(end, 0, 5000) || out(part, 0, 1)) return NO;
        return stop(hands.get(h)).likely(end).part(part);
    }

    int ahead(int h, int goal) {
        if (noHand(h)) return -5;
        if (out(goal, 0, 1)) return -7;
        int which = -1;
        Frac best = null;
        for (int v = 0; v < 100; v++) {
            Hand hand = hands.get(h).clone();
            hand.ahead = v;
            Stop s = stop(hand);
            Frac f = goal == 0 ? s.meanCost(theLaw(), hand, mark) : s.likely(mark);
            if (best == null || (goal == 0 ? f.compare(best) < 0 : f.compare(best) > 0)) {
                best = f;
                which = v;
            }
        }
        return which;
    }

    int change(int h, int goal) {
        if (noHand(h)) return -5;
        if (out(goal, 0, 1)) return -7;
        Frac justNow = stop(hands.get(h)).likely(mark);
        int which = -1;
        Frac best = null;
        for (int v = 0; v <= 500; v += 10) {
            Hand hand = hands.get(h).clone();
            hand.change = v;
            Stop s = stop(hand);
            if (goal == 1 && s.likely(mark).compare(justNow) < 0) continue;
            Frac f = goal == 0 ? s.meanCost(theLaw(), hand, mark) : s.meanTenths();
            if (best == null || f.compare(best) < 0) {
                best = f;
                which = v;
            }
        }
        return which;
    }

    int who(int goal) {
        if (out(goal, 0, 2)) return -2;
        int which = -1;
        Frac best = null;
        for (int h = 0; h < hands.size(); h++) {
            Stop s = stop(hands.get(h));
            Frac f = goal == 0 ? s.meanCost(theLaw(), hands.get(h), mark) : goal == 1 ? s.meanTenths() : s.likely(mark);
            if (best == null || (goal < 2 ? f.compare(best) < 0 : f.compare(best) > 0)) {
                best = f;
                which = h;
            }
        }
        return which;
    }

    int next(int h) {
        if (noHand(h)) return -5;
        int which = -1;
        Frac best = null;
        for (int m = mark; m <= mark + 900; m += 100) {
            Frac f = new Stop(hands.get(h), theLaw(), m, 0).meanCost(theLaw(), hands.get(h), m);
            if (best == null || f.compare(best) < 0) {
                best = f;
                which = m;
            }
        }
        return which;
    }

    long on(int h, int end, int part) {
        if (noHand(h) || out(end, 0, 5000) || out(part, 0, 1)) return NO;
        int m = end + 1;
        while (m % 100 != 0) m++;
        Hand hand = hands.get(h);
        Frac going = new Stop(hand, theLaw(), m, end).meanCost(theLaw(), hand, m);
        return going.plus(Frac.of(-costs(theLaw(), end, mark, hand.more), 1)).part(part);
    }

    int both(int end, int by) {
        if (out(end, 0, 5000) || out(by, 1, 100)) return -2;
        for (int s = end; s <= end + 1000; s++) if (s % by == 0 && s * 4 % price == 0) return s;
        return -1;
    }

    long full(int h, int sort, int part) {
        if (noHand(h) || out(sort, 0, 1) || out(part, 0, 1)) return NO;
        boolean below = fullAt < mark;
        if (below != (sort == 0)) return part;
        return stop(hands.get(h)).likely(fullAt).part(part);
    }

    int spread(int h) {
        if (noHand(h)) return -5;
        List<Integer> ends = endsOf(hands.get(h));
        return ends.stream().max(Integer::compare).get() - ends.stream().min(Integer::compare).get();
    }

    private List<Integer> endsOf(Hand h) {
        Stop s = stop(h);
        List<Integer> ends = new ArrayList<>();
        for (int a = 0; a < 5; a++) if (s.often[a] > 0) ends.add(s.end[a]);
        return ends;
    }

    long alike(int h, int n, int part) {
        if (noHand(h) || out(n, 1, 4) || out(part, 0, 1)) return NO;
        Stop s = stop(hands.get(h));
        Frac sum = Frac.of(0, 1);
        for (int end = 0; end <= 5000; end++) {
            Frac one = s.likely(end), all = Frac.of(1, 1);
            if (one.above().signum() == 0) continue;
            for (int i = 0; i < n; i++) all = all.times(one);
            sum = sum.plus(all);
        }
        return sum.part(part);
    }

    int judge(int s, int h) {
        return judgeBy(s, h, theLaw());
    }

    private int judgeBy(int s, int h, Text t) {
        if (out(s, 0, 3)) return -2;
        if (sheets[s] == null) return -11;
        if (noHand(h)) return -5;
        Stop stop = new Stop(hands.get(h), t, mark, 0);
        for (int i = 0; i < sheets[s].length; i++) {
            if (stop.likely(sheets[s][i]).above().signum() == 0) return i;
        }
        return -1;
    }

    private long partsBy(int s, Hand hand, Text t) {
        Stop stop = new Stop(hand, t, mark, 0);
        BigInteger parts = BigInteger.valueOf(1000000000);
        for (int v : sheets[s]) parts = parts.multiply(stop.likely(v).above()).divide(BigInteger.valueOf(stop.all));
        return parts.longValueExact();
    }

    private boolean noSheet(int s) {
        return out(s, 0, 3) || sheets[s] == null;
    }

    long parts(int s, int h) {
        return noSheet(s) || noHand(h) ? NO : partsBy(s, hands.get(h), theLaw());
    }

    private static long most(List<Long> all, int what) {
        long most = all.stream().max(Long::compare).get();
        return what == 0 ? all.indexOf(most) : most;
    }

    long fits(int s, int h, int sortWhat) {
        if (noSheet(s) || noHand(h) || !List.of(0, 1, 10, 11, 20, 21).contains(sortWhat)) return NO;
        List<Long> all = new ArrayList<>();
        for (int v = 0; v < new int[] {6, 10, 100}[sortWhat / 10]; v++) {
            Hand hand = hands.get(h).clone();
            if (sortWhat / 10 == 0) hand.kind = v;
            if (sortWhat / 10 == 1) hand.more = v;
            if (sortWhat / 10 == 2) hand.ahead = v;
            all.add(partsBy(s, hand, theLaw()));
        }
        return most(all, sortWhat % 10);
    }

    long whose(int s, int what) {
        if (noSheet(s) || out(what, 0, 1)) return NO;
        List<Long> all = new ArrayList<>();
        for (Hand hand : hands) all.add(partsBy(s, hand, theLaw()));
        return all.isEmpty() ? -1 : most(all, what);
    }

    long rule(int s, int h, int what) {
        if (noSheet(s) || noHand(h) || out(what, 0, 1)) return NO;
        List<Long> all = new ArrayList<>();
        for (Text t : texts) all.add(partsBy(s, hands.get(h), t));
        return most(all, what);
    }

    int laws(int s, int h) {
        int bits = 0;
        for (int t = 0; t < texts.size(); t++) {
            int judged = judgeBy(s, h, texts.get(t));
            if (judged < -1) return judged;
            if (judged == -1) bits += 1 << t;
        }
        return bits;
    }

    int film(int s, int h) {
        if (out(s, 0, 3)) return -2;
        if (noHand(h)) return -5;
        sheets[s] = endsOf(hands.get(h)).stream().mapToInt(Integer::intValue).toArray();
        sorts[s] = 2;
        return sheets[s].length;
    }

    int drawn(int seed, int h, int what) {
        if (noHand(h)) return -5;
        if (out(seed, 0, 99999) || out(what, 0, 1)) return -7;
        Stop s = stop(hands.get(h));
        return what == 0 ? s.end[s.drawn(seed)] : s.drawn(seed);
    }

    long odds(int seed, int seeds, int h, int part) {
        if (out(seed, 0, 99999) || out(seeds, 1, 99) || noHand(h) || out(part, 0, 1)) return NO;
        Stop s = stop(hands.get(h));
        int n = 0;
        for (int i = 0; i < seeds; i++) if (s.end[s.drawn(seed + i)] == mark) n++;
        return Frac.of(n, seeds).part(part);
    }

    int serve(int seed, int h) {
        if (noHand(h)) return -5;
        if (out(seed, 0, 99999)) return -7;
        if (slips == 999) return -4;
        int end = drawn(seed, h, 0);
        slips++;
        if (end == mark) just++;
        spent += costs(theLaw(), end, mark, hands.get(h).more);
        return end;
    }

    int book(int what) {
        return out(what, 0, 2) ? -2 : new int[] {slips, just, spent}[what];
    }

    int image() {
        image = new Image();
        image.mark = mark;
        image.drips = drips;
        image.price = price;
        image.fullAt = fullAt;
        image.slips = slips;
        image.just = just;
        image.spent = spent;
        image.law = law;
        for (Hand h : hands) image.hands.add(new int[] {h.ahead, h.change});
        return hands.size();
    }

    int back() {
        if (image == null) return -3;
        mark = image.mark;
        drips = image.drips;
        price = image.price;
        fullAt = image.fullAt;
        slips = image.slips;
        just = image.just;
        spent = image.spent;
        law = image.law;
        while (hands.size() > image.hands.size()) hands.remove(hands.size() - 1);
        for (int h = 0; h < hands.size(); h++) {
            hands.get(h).ahead = image.hands.get(h)[0];
            hands.get(h).change = image.hands.get(h)[1];
        }
        return hands.size();
    }

    int sheet(int s, int sort, int n) {
        if (out(s, 0, 3) || out(sort, -1, 2)) return -2;
        if (sort == -1) {
            sheets[s] = null;
            sorts[s] = -1;
            return 1;
        }
        if (n > 40) return -2;
        if (n < 0) return -14;
        sheets[s] = new int[n];
        sorts[s] = sort;
        return 1;
    }

    int cell(int s, int i, int v) {
        if (out(s, 0, 3)) return -2;
        if (sheets[s] == null) return -11;
        if (out(i, 0, sheets[s].length - 1)) return -12;
        sheets[s][i] = sorts[s] == 0 ? (byte) v : sorts[s] == 1 ? (short) v : v;
        return 1;
    }

    int copy(int s, int i, int other, int j, int n) {
        if (out(s, 0, 3) || out(other, 0, 3)) return -2;
        if (sheets[s] == null || sheets[other] == null) return -11;
        if (sorts[s] != sorts[other]) return -13;
        if (i < 0 || j < 0 || n < 0 || (long) i + n > sheets[s].length || (long) j + n > sheets[other].length) return -12;
        int[] were = sheets[s].clone();
        for (int k = 0; k < n; k++) sheets[other][j + k] = were[i + k];
        return n;
    }

    int handsBy(int s, int sort, int at, int n) {
        if (out(s, 0, 3) || out(sort, 0, 2) || out(n, 0, 5)) return -2;
        if (sheets[s] == null) return -11;
        if (sorts[s] != sort) return -13;
        int came = 0;
        for (int k = 0; k < n; k++) {
            int[] three = new int[3];
            for (int i = 0; i < 3; i++) {
                long place = (long) at + 3 * k + i;
                if (place < 0 || place >= sheets[s].length) return -12;
                three[i] = sheets[s][(int) place];
            }
            if (hand(three[0], three[1], three[2]) >= 0) came++;
        }
        return came;
    }

    long taken(int i, int kind) {
        if (out(kind, 0, 6)) return -2;
        if (out(i, 0, 6)) return -12;
        if (i < 5 && noHand(i)) return -11;
        if (i < 5) return kind < 6 && isA(hands.get(i).kind, kind) ? i : -13;
        if (kind != 6) return -13;
        return i == 5 ? mark : price;
    }
}
