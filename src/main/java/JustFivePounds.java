/** A pump stopped at just five pounds; what each call does is told in ../shared/DOC.md, promise by promise. */
public final class JustFivePounds {
    public static final int NONE = -1, BAD = -2, STATE = -3, FULL = -4;
    public static final long NO = -4611686018427387904L;

    private static final int NO_SUCH = -5, NOT_AS_TOLD = -7;
    private static final int NOTHING_THERE = -11, OUTSIDE = -12, UNLIKE = -13, BELOW_NONE = -14;

    private static final int HANDS_MOST = 5, TEXTS_MOST = 6, SHEETS_MOST = 4, CELLS_MOST = 40, TAPE_MOST = 160;
    private static final int MARK_MOST = 2000, DRIPS_MOST = 9, PRICE_MOST = 99, SUM_MOST = 5000;
    private static final int MORE_MOST = 9, AHEAD_MOST = 99, CHANGE_MOST = 500, OFF_MOST = 999;
    private static final int SLIPS_MOST = 999, SEED_MOST = 99999, SEEDS_MOST = 99;

    /** How many KINDS there are, and their numbers. */
    private static final int KINDS = 6;
    private static final int SLOW = 1, LATE_ONE = 2, SURE = 3, TOUCHING = 4, CARELESS = 5;
    /** What taken() calls a sum, beside the KINDS. */
    private static final int SUM_KIND = 6;

    /** How many tenths one may be LATE: 0 .. 4. */
    private static final int LATES = 5;
    private static final int TENTHS_MOST = 2000, TOUCHES_MOST = 30, TENTHS_OF_TOUCH = 5;

    /** The parts of a TEXT. */
    private static final int RUNS = 0, LATE = 1, COSTS = 2, PARTS = 3;

    /** What a STOP may be measured by: the more the better. */
    private static final int BY_COST = 0, BY_TENTHS = 1, BY_JUST = 2;

    private static final int BYTES = 0, SHORTS = 1, INTS = 2, MISSING = -1;

    private static final String FIRST_LAW = "runs notch * notch * 3 ; late 3 - after ; costs off * off ;";

    private final State now = new State();
    private final State kept = new State();
    private boolean imageKept;
    private final Hand[] hands = new Hand[HANDS_MOST];
    /** The HAND that one thinks of in the place of another: made once, as all calls share one room. */
    private final Hand trial = new Hand();
    private final Text[] texts = new Text[TEXTS_MOST];
    private int textCount;
    private final Tape tape = new Tape();
    private final Sheet[] sheets = new Sheet[SHEETS_MOST];
    private final Stop stop = new Stop();
    private final Best best = new Best();

    public JustFivePounds() {
        for (int h = 0; h < hands.length; h++) hands[h] = new Hand();
        for (int t = 0; t < texts.length; t++) texts[t] = new Text();
        for (int s = 0; s < sheets.length; s++) sheets[s] = new Sheet();
        for (int i = 0; i < FIRST_LAW.length(); i++) tape.put(FIRST_LAW.charAt(i));
        text();
    }

    // ---- the pump, the law

    public int count(int what) {
        switch (what) {
            case 0: return now.hands;
            case 1: return now.mark;
            case 2: return now.drips;
            case 3: return now.price;
            case 4: return now.fullAt;
            case 5: return textCount;
            case 6: return now.law;
            case 7: return tape.size;
            default: return BAD;
        }
    }

    public int set(int what, int v) {
        int was = count(what + 1);
        switch (what) {
            case 0:
                if (!within(v, 1, MARK_MOST)) return NOT_AS_TOLD;
                now.mark = v;
                return was;
            case 1:
                if (!within(v, 0, DRIPS_MOST)) return NOT_AS_TOLD;
                now.drips = v;
                return was;
            case 2:
                if (!within(v, 1, PRICE_MOST)) return NOT_AS_TOLD;
                now.price = v;
                return was;
            case 3:
                if (!within(v, 1, SUM_MOST)) return NOT_AS_TOLD;
                now.fullAt = v;
                return was;
            default:
                return NO_SUCH;
        }
    }

    public int feed(int n, int a, int b, int c, int d, int e) {
        if (!within(n, 1, 5)) return BAD;
        if (!isByte(a) || !isByte(b) || !isByte(c) || !isByte(d) || !isByte(e)) return BAD;
        if (tape.size > TAPE_MOST - n) return FULL;
        tape.put(a);
        if (n > 1) tape.put(b);
        if (n > 2) tape.put(c);
        if (n > 3) tape.put(d);
        if (n > 4) tape.put(e);
        return tape.size;
    }

    public int text() {
        if (!within(textCount, 0, texts.length - 1)) return FULL;
        int fault = tape.readInto(texts[textCount]);
        tape.size = 0;
        if (fault != NONE) return -100 - fault;
        textCount++;
        return textCount - 1;
    }

    public int force(int t) {
        if (!within(t, 0, textCount - 1)) return BAD;
        int was = now.law;
        now.law = t;
        return was;
    }

    public int asks(int part, int notchAfter, int offOver, int more) {
        int notch = notchAfter / 10, after = notchAfter % 10, off = offOver / 10, over = offOver % 10;
        if (!within(part, 0, PARTS - 1) || !within(notch, 1, 3) || !within(after, 0, LATES - 1)) return BAD;
        if (!within(off, 0, OFF_MOST) || !within(over, 0, 1) || !within(more, 0, MORE_MOST)) return BAD;
        return lawText().says(part, notch, after, off, over, more, now.price);
    }

    // ---- hands

    public int hand(int kindMore, int ahead, int change) {
        if (!within(kindMore, 0, 10 * KINDS - 1)) return BAD;
        if (!within(ahead, 0, AHEAD_MOST) || !within(change, 0, CHANGE_MOST)) return BAD;
        if (!within(now.hands, 0, hands.length - 1)) return FULL;
        hands[now.hands].become(kindMore / 10, kindMore % 10, ahead, change);
        now.hands++;
        return now.hands - 1;
    }

    public int train(int h, int what, int v) {
        Hand hand = handAt(h);
        if (hand == null) return NO_SUCH;
        if (!within(what, 0, 1) || !within(v, 0, what == 0 ? AHEAD_MOST : CHANGE_MOST)) return NOT_AS_TOLD;
        int was = what == 0 ? hand.ahead : hand.change;
        if (what == 0) hand.ahead = v;
        else hand.change = v;
        return was;
    }

    public int told(int h, int what) {
        Hand hand = handAt(h);
        if (hand == null) return NO_SUCH;
        switch (what) {
            case 0: return hand.kind;
            case 1: return hand.more;
            case 2: return hand.ahead;
            case 3: return hand.change;
            default: return NOT_AS_TOLD;
        }
    }

    // ---- stops

    public int stops(int h, int after, int what) {
        Hand hand = handAt(h);
        if (hand == null) return NO_SUCH;
        if (!within(after, 0, LATES - 1) || !within(what, 0, 3)) return NOT_AS_TOLD;
        think(hand);
        if (what == 0) return stop.endOf(after);
        if (what == 1) return stop.tenthsOf(after);
        return what == 2 ? stop.oftenOf(after) : stop.notch;
    }

    public long chance(int h, int sort, int part) {
        Hand hand = handAt(h);
        if (hand == null || !within(sort, 0, 2)) return NO;
        think(hand);
        long just = stop.oftenAt(now.mark), above = stop.oftenAbove(now.mark);
        if (sort == 0) return inLowestTerms(just, stop.all, part);
        return inLowestTerms(sort == 1 ? above : stop.all - just - above, stop.all, part);
    }

    public long mean(int h, int part) {
        Hand hand = handAt(h);
        if (hand == null) return NO;
        think(hand);
        return inLowestTerms(costsOf(hand, now.mark), stop.all, part);
    }

    public long time(int h, int part) {
        Hand hand = handAt(h);
        if (hand == null) return NO;
        think(hand);
        return inLowestTerms(stop.allTenths(), stop.all, part);
    }

    public long at(int h, int end, int part) {
        Hand hand = handAt(h);
        if (hand == null || !within(end, 0, SUM_MOST)) return NO;
        think(hand);
        return inLowestTerms(stop.oftenAt(end), stop.all, part);
    }

    // ---- what is best

    public int ahead(int h, int goal) {
        Hand hand = handAt(h);
        if (hand == null) return NO_SUCH;
        if (!within(goal, 0, 1)) return NOT_AS_TOLD;
        best.start();
        trial.becomeLike(hand);
        for (int v = 0; v <= AHEAD_MOST; v++) {
            trial.ahead = v;
            think(trial);
            best.offer(v, worth(trial, goal == 0 ? BY_COST : BY_JUST), stop.all);
        }
        return best.which;
    }

    public int change(int h, int goal) {
        Hand hand = handAt(h);
        if (hand == null) return NO_SUCH;
        if (!within(goal, 0, 1)) return NOT_AS_TOLD;
        think(hand);
        long justNow = stop.oftenAt(now.mark), allNow = stop.all;
        best.start();
        trial.becomeLike(hand);
        for (int v = 0; v <= CHANGE_MOST; v += 10) {
            trial.change = v;
            think(trial);
            boolean lessLikely = stop.oftenAt(now.mark) * allNow < justNow * stop.all;
            if (goal == 1 && lessLikely) continue;
            best.offer(v, worth(trial, goal == 0 ? BY_COST : BY_TENTHS), stop.all);
        }
        return best.which;
    }

    public int who(int goal) {
        if (!within(goal, 0, 2)) return BAD;
        best.start();
        for (int h = 0; h < now.hands && h < hands.length; h++) {
            think(hands[h]);
            best.offer(h, worth(hands[h], goal), stop.all);
        }
        return best.which;
    }

    public int next(int h) {
        Hand hand = handAt(h);
        if (hand == null) return NO_SUCH;
        best.start();
        for (int i = 0; i < 10; i++) {
            int mark = now.mark + 100 * i;
            stop.think(hand, lawText(), now, mark, 0);
            best.offer(mark, -costsOf(hand, mark), stop.all);
        }
        return best.which;
    }

    public long on(int h, int end, int part) {
        Hand hand = handAt(h);
        if (hand == null || !within(end, 0, SUM_MOST)) return NO;
        int mark = (end / 100 + 1) * 100;
        stop.think(hand, lawText(), now, mark, end);
        long staying = costOf(lawText(), hand.more, now.price, end, now.mark);
        return inLowestTerms(costsOf(hand, mark) - staying * stop.all, stop.all, part);
    }

    // ---- round in both ways, full, alike

    public int both(int end, int by) {
        if (!within(end, 0, SUM_MOST) || !within(by, 1, 100) || now.price < 1) return BAD;
        for (int sum = end; sum <= end + 1000; sum++) {
            if (sum % by == 0 && 4 * sum % now.price == 0) return sum;
        }
        return NONE;
    }

    public long full(int h, int sort, int part) {
        Hand hand = handAt(h);
        if (hand == null || !within(sort, 0, 1)) return NO;
        think(hand);
        boolean asAsked = now.fullAt < now.mark == (sort == 0);
        return inLowestTerms(asAsked ? stop.oftenAt(now.fullAt) : 0, stop.all, part);
    }

    public int spread(int h) {
        Hand hand = handAt(h);
        if (hand == null) return NO_SUCH;
        think(hand);
        return stop.mostLessLeast();
    }

    public long alike(int h, int n, int part) {
        Hand hand = handAt(h);
        if (hand == null || !within(n, 1, 4)) return NO;
        think(hand);
        return inLowestTerms(stop.oftenAlike(n), power(stop.all, n), part);
    }

    // ---- told slips

    public int judge(int s, int h) {
        Sheet sheet = sheetAt(s);
        Hand hand = handAt(h);
        int refused = refusedOf(sheet, hand);
        if (refused != 0 || sheet == null || hand == null) return refused;
        return firstUnlikely(sheet, hand, lawText());
    }

    public long parts(int s, int h) {
        Sheet sheet = sheetAt(s);
        Hand hand = handAt(h);
        if (sheet == null || sheet.sort == MISSING || hand == null) return NO;
        return partsBy(sheet, hand, lawText());
    }

    public long fits(int s, int h, int sortWhat) {
        Sheet sheet = sheetAt(s);
        Hand hand = handAt(h);
        if (sheet == null || sheet.sort == MISSING || hand == null) return NO;
        int sort = sortWhat / 10, what = sortWhat % 10;
        if (!within(sort, 0, 2) || !within(what, 0, 1)) return NO;
        int most = sort == 0 ? KINDS - 1 : sort == 1 ? MORE_MOST : AHEAD_MOST;
        best.start();
        trial.becomeLike(hand);
        for (int v = 0; v <= most; v++) {
            if (sort == 0) trial.kind = v;
            else if (sort == 1) trial.more = v;
            else trial.ahead = v;
            best.offer(v, partsBy(sheet, trial, lawText()), 1);
        }
        return what == 0 ? best.which : best.above;
    }

    public long whose(int s, int what) {
        Sheet sheet = sheetAt(s);
        if (sheet == null || sheet.sort == MISSING || !within(what, 0, 1)) return NO;
        best.start();
        for (int h = 0; h < now.hands && h < hands.length; h++) {
            best.offer(h, partsBy(sheet, hands[h], lawText()), 1);
        }
        if (best.which == NONE) return NONE;
        return what == 0 ? best.which : best.above;
    }

    public long rule(int s, int h, int what) {
        Sheet sheet = sheetAt(s);
        Hand hand = handAt(h);
        if (sheet == null || sheet.sort == MISSING || hand == null || !within(what, 0, 1)) return NO;
        best.start();
        for (int t = 0; t < textCount && t < texts.length; t++) {
            best.offer(t, partsBy(sheet, hand, texts[t]), 1);
        }
        return what == 0 ? best.which : best.above;
    }

    public int laws(int s, int h) {
        Sheet sheet = sheetAt(s);
        Hand hand = handAt(h);
        int refused = refusedOf(sheet, hand);
        if (refused != 0 || sheet == null || hand == null) return refused;
        int bits = 0;
        for (int t = 0; t < textCount && t < texts.length; t++) {
            if (firstUnlikely(sheet, hand, texts[t]) == NONE) bits |= 1 << t;
        }
        return bits;
    }

    public int film(int s, int h) {
        Sheet sheet = sheetAt(s);
        if (sheet == null) return BAD;
        Hand hand = handAt(h);
        if (hand == null) return NO_SUCH;
        think(hand);
        sheet.become(INTS, 0);
        for (int a = 0; a < LATES; a++) {
            if (stop.oftenOf(a) > 0) sheet.append(stop.endOf(a));
        }
        return sheet.size;
    }

    // ---- sums by lot, the book

    public int drawn(int seed, int h, int what) {
        Hand hand = handAt(h);
        if (hand == null) return NO_SUCH;
        if (!within(seed, 0, SEED_MOST) || !within(what, 0, 1)) return NOT_AS_TOLD;
        think(hand);
        int late = stop.lateBy(seed);
        return what == 0 ? stop.endOf(late) : late;
    }

    public long odds(int seed, int seeds, int h, int part) {
        Hand hand = handAt(h);
        if (!within(seed, 0, SEED_MOST) || !within(seeds, 1, SEEDS_MOST) || hand == null) return NO;
        think(hand);
        int just = 0;
        for (int i = 0; i < seeds; i++) {
            if (stop.endOf(stop.lateBy(seed + i)) == now.mark) just++;
        }
        return inLowestTerms(just, seeds, part);
    }

    public int serve(int seed, int h) {
        Hand hand = handAt(h);
        if (hand == null) return NO_SUCH;
        if (!within(seed, 0, SEED_MOST)) return NOT_AS_TOLD;
        if (now.slips >= SLIPS_MOST) return FULL;
        think(hand);
        int end = stop.endOf(stop.lateBy(seed));
        now.slips++;
        if (end == now.mark) now.just++;
        now.spent += costOf(lawText(), hand.more, now.price, end, now.mark);
        return end;
    }

    public int book(int what) {
        switch (what) {
            case 0: return now.slips;
            case 1: return now.just;
            case 2: return now.spent;
            default: return BAD;
        }
    }

    public int image() {
        kept.becomeLike(now);
        for (int h = 0; h < hands.length; h++) hands[h].keep();
        imageKept = true;
        return now.hands;
    }

    public int back() {
        if (!imageKept) return STATE;
        now.becomeLike(kept);
        for (int h = 0; h < hands.length; h++) hands[h].comeBack();
        return now.hands;
    }

    // ---- the host

    public int sheet(int s, int sort, int n) {
        Sheet sheet = sheetAt(s);
        if (sheet == null || !within(sort, MISSING, INTS)) return BAD;
        if (sort != MISSING && n > CELLS_MOST) return BAD;
        if (sort != MISSING && n < 0) return BELOW_NONE;
        sheet.become(sort, sort == MISSING ? 0 : n);
        return 1;
    }

    public int cell(int s, int i, int v) {
        Sheet sheet = sheetAt(s);
        if (sheet == null) return BAD;
        if (sheet.sort == MISSING) return NOTHING_THERE;
        if (!within(i, 0, sheet.size - 1)) return OUTSIDE;
        sheet.write(i, v);
        return 1;
    }

    public int copy(int s, int i, int other, int j, int n) {
        Sheet from = sheetAt(s), to = sheetAt(other);
        if (from == null || to == null) return BAD;
        if (from.sort == MISSING || to.sort == MISSING) return NOTHING_THERE;
        if (from.sort != to.sort) return UNLIKE;
        // so and not i + n > size: the sum of two large ints would wrap
        if (i < 0 || j < 0 || n < 0 || i > from.size - n || j > to.size - n) return OUTSIDE;
        to.take(j, from, i, n);
        return n;
    }

    public int handsBy(int s, int sort, int at, int n) {
        Sheet sheet = sheetAt(s);
        if (sheet == null || !within(sort, BYTES, INTS) || !within(n, 0, HANDS_MOST)) return BAD;
        if (sheet.sort == MISSING) return NOTHING_THERE;
        if (sheet.sort != sort) return UNLIKE;
        int came = 0;
        for (int k = 0, place = at; k < n; k++, place += 3) {
            if (!within(place, 0, sheet.size - 3)) return OUTSIDE;
            if (hand(sheet.read(place), sheet.read(place + 1), sheet.read(place + 2)) >= 0) came++;
        }
        return came;
    }

    public long taken(int i, int kind) {
        if (!within(kind, 0, SUM_KIND)) return BAD;
        if (!within(i, 0, HANDS_MOST + 1)) return OUTSIDE;
        if (i >= HANDS_MOST) {
            if (kind != SUM_KIND) return UNLIKE;
            return i == HANDS_MOST ? now.mark : now.price;
        }
        Hand hand = handAt(i);
        if (hand == null) return NOTHING_THERE;
        return kind != SUM_KIND && hand.isOf(kind) ? i : UNLIKE;
    }

    // ---- what the calls share

    private static boolean within(int v, int least, int most) {
        return v >= least && v <= most;
    }

    private static boolean isByte(int v) {
        return within(v, 0, 255);
    }

    /** The HAND, or null: no such one. */
    private Hand handAt(int h) {
        return within(h, 0, now.hands - 1) && h < hands.length ? hands[h] : null;
    }

    /** The SHEET (that may be missing), or null: no such one. */
    private Sheet sheetAt(int s) {
        return within(s, 0, sheets.length - 1) ? sheets[s] : null;
    }

    private Text lawText() {
        return within(now.law, 0, texts.length - 1) ? texts[now.law] : texts[0];
    }

    private void think(Hand hand) {
        stop.think(hand, lawText(), now, now.mark, 0);
    }

    private long costsOf(Hand hand, int mark) {
        long costs = 0;
        for (int a = 0; a < LATES; a++) {
            costs += (long) stop.oftenOf(a) * costOf(lawText(), hand.more, now.price, stop.endOf(a), mark);
        }
        return costs;
    }

    private static int costOf(Text law, int more, int price, int sum, int mark) {
        int off = Math.min(OFF_MOST, Math.abs(sum - mark));
        return law.says(COSTS, 0, 0, off, sum > mark ? 1 : 0, more, price);
    }

    /** What the STOP just thought of is worth, to be divided by ALL: costs and tenths count below 0. */
    private long worth(Hand hand, int by) {
        if (by == BY_COST) return -costsOf(hand, now.mark);
        return by == BY_TENTHS ? -stop.allTenths() : stop.oftenAt(now.mark);
    }

    private static int refusedOf(Sheet sheet, Hand hand) {
        if (sheet == null) return BAD;
        if (sheet.sort == MISSING) return NOTHING_THERE;
        return hand == null ? NO_SUCH : 0;
    }

    private int firstUnlikely(Sheet sheet, Hand hand, Text law) {
        stop.think(hand, law, now, now.mark, 0);
        for (int i = 0; i < sheet.size; i++) {
            if (stop.oftenAt(sheet.read(i)) == 0) return i;
        }
        return NONE;
    }

    private long partsBy(Sheet sheet, Hand hand, Text law) {
        stop.think(hand, law, now, now.mark, 0);
        long parts = 1000000000;
        for (int i = 0; i < sheet.size && stop.all > 0; i++) {
            parts = parts * stop.oftenAt(sheet.read(i)) / stop.all;
        }
        return parts;
    }

    private static long power(long v, int n) {
        long power = 1;
        for (int i = 0; i < n; i++) power *= v;
        return power;
    }

    private static long inLowestTerms(long above, long below, int part) {
        if (!within(part, 0, 1) || below < 1) return NO;
        long common = commonOf(Math.abs(above), below);
        if (common < 1) return NO;
        return (part == 0 ? above : below) / common;
    }

    /** The greatest number that divides both; Euclid needs fewer than 100 turns for any two longs. */
    private static long commonOf(long a, long b) {
        for (int i = 0; i < 100 && b != 0; i++) {
            long rest = a % b;
            a = b;
            b = rest;
        }
        return a;
    }

    /** All that an image keeps, but for what each HAND keeps itself. */
    private static final class State {
        int mark = 500, drips = 1, price = 40, fullAt = 5000;
        int slips, just, spent;
        int hands, law;

        void becomeLike(State other) {
            mark = other.mark;
            drips = other.drips;
            price = other.price;
            fullAt = other.fullAt;
            slips = other.slips;
            just = other.just;
            spent = other.spent;
            hands = other.hands;
            law = other.law;
        }
    }

    /** One who presses a notch, lets go, is late and may touch again, as its KIND does. */
    private static final class Hand {
        /** Which KIND each KIND is one of. */
        private static final int[] IS_A = {-1, 0, 0, 1, 2, 0};

        int kind, more, ahead, change;
        private int keptAhead, keptChange;

        void become(int kind, int more, int ahead, int change) {
            this.kind = kind;
            this.more = more;
            this.ahead = ahead;
            this.change = change;
        }

        void becomeLike(Hand other) {
            become(other.kind, other.more, other.ahead, other.change);
        }

        void keep() {
            keptAhead = ahead;
            keptChange = change;
        }

        void comeBack() {
            ahead = keptAhead;
            change = keptChange;
        }

        boolean isOf(int wanted) {
            int is = kind;
            for (int i = 0; i < KINDS && is >= 0 && is < IS_A.length; i++) {
                if (is == wanted) return true;
                is = IS_A[is];
            }
            return false;
        }

        int notchFor(int lacking) {
            if (isOf(LATE_ONE)) return lacking > change ? 3 : 1;
            if (isOf(SLOW)) return 1;
            return isOf(CARELESS) ? 3 : 2;
        }

        /** So long as more than this is lacking (0: to the end), the notch stays the same. */
        int sameNotchAbove(int lacking) {
            return isOf(LATE_ONE) && lacking > change ? change : 0;
        }

        int oftenFor(int late, int said) {
            int often = said;
            if (isOf(CARELESS)) often = 1 + late * more / 3;
            else if (isOf(SURE)) often = late > 1 ? 0 : said + 1;
            else if (isOf(LATE_ONE)) often = late == 0 ? 0 : said + more / 4;
            return Math.max(0, often);
        }

        int touchFor(int lacking) {
            if (!isOf(TOUCHING)) return 0;
            return lacking > 10 ? 3 + more / 3 : 1;
        }
    }

    /** A STOP in thought: END, TENTHS and OFTEN of each a; one object, thought anew by each call. */
    private static final class Stop {
        private final int[] ends = new int[LATES];
        private final int[] tenths = new int[LATES];
        private final int[] often = new int[LATES];
        int all, notch;
        /** How far the pressing, then the being late of one a, has come. */
        private int sum, past;

        void think(Hand hand, Text law, State pump, int mark, int start) {
            press(hand, law, pump, mark, start);
            int letGoAt = sum, letGoAfter = past;
            int runs = law.says(RUNS, notch, 0, 0, 0, hand.more, pump.price);
            all = 0;
            for (int a = 0; a < LATES; a++) {
                sum = filled(filled(letGoAt + a * runs, pump) + pump.drips, pump);
                past = letGoAfter + a;
                touch(hand, pump, mark);
                ends[a] = sum;
                tenths[a] = past;
                often[a] = hand.oftenFor(a, law.says(LATE, notch, a, 0, 0, hand.more, pump.price));
                all += often[a];
            }
            if (all > 0) return;
            often[0] = 1;
            all = 1;
        }

        /** A turn presses for as many tenths as the same notch stands: ahead() alone thinks of a hundred STOPS. */
        private void press(Hand hand, Text law, State pump, int mark, int start) {
            sum = filled(start, pump);
            past = 0;
            notch = hand.notchFor(mark - sum);
            for (int i = 0; i < TENTHS_MOST; i++) {
                int lacking = mark - sum;
                if (lacking <= hand.ahead || sum >= pump.fullAt || past >= TENTHS_MOST) return;
                notch = hand.notchFor(lacking);
                int runs = law.says(RUNS, notch, 0, 0, 0, hand.more, pump.price);
                int enough = tenthsFor(lacking - Math.max(hand.ahead, hand.sameNotchAbove(lacking)), runs);
                int times = Math.min(Math.min(enough, tenthsFor(pump.fullAt - sum, runs)), TENTHS_MOST - past);
                sum = filled(sum + times * runs, pump);
                past += times;
            }
        }

        private void touch(Hand hand, State pump, int mark) {
            for (int i = 0; i < TOUCHES_MOST && sum < mark && sum < pump.fullAt; i++) {
                int gives = hand.touchFor(mark - sum);
                if (gives <= 0) return;
                sum = filled(sum + gives, pump);
                past += TENTHS_OF_TOUCH;
            }
        }

        private static int filled(int sum, State pump) {
            return Math.min(sum, pump.fullAt);
        }

        private static int tenthsFor(int much, int runs) {
            return runs < 1 ? TENTHS_MOST : (much + runs - 1) / runs;
        }

        int endOf(int late) {
            return within(late, 0, LATES - 1) ? ends[late] : 0;
        }

        int tenthsOf(int late) {
            return within(late, 0, LATES - 1) ? tenths[late] : 0;
        }

        int oftenOf(int late) {
            return within(late, 0, LATES - 1) ? often[late] : 0;
        }

        long oftenAt(int end) {
            long together = 0;
            for (int a = 0; a < LATES; a++) {
                if (ends[a] == end) together += often[a];
            }
            return together;
        }

        long oftenAbove(int end) {
            long together = 0;
            for (int a = 0; a < LATES; a++) {
                if (ends[a] > end) together += often[a];
            }
            return together;
        }

        long allTenths() {
            long together = 0;
            for (int a = 0; a < LATES; a++) together += (long) often[a] * tenths[a];
            return together;
        }

        int mostLessLeast() {
            int least = SUM_MOST, most = 0;
            for (int a = 0; a < LATES; a++) {
                if (often[a] <= 0) continue;
                least = Math.min(least, ends[a]);
                most = Math.max(most, ends[a]);
            }
            return most - least;
        }

        /** In how many of ALL ways, n times multiplied, n STOPS END alike. */
        long oftenAlike(int n) {
            long together = 0;
            for (int a = 0; a < LATES; a++) {
                boolean first = true;
                for (int b = 0; b < a; b++) first = first && ends[b] != ends[a];
                if (first) together += power(oftenAt(ends[a]), n);
            }
            return together;
        }

        /** Which a a SEED draws. */
        int lateBy(int seed) {
            if (all < 1) return 0;
            long lot = (seed + 1L) * 48271 % 2147483647 % all;
            long together = 0;
            for (int a = 0; a < LATES; a++) {
                together += often[a];
                if (together > lot) return a;
            }
            return 0;
        }
    }

    /** What was offered with the greatest worth (above by below), the first of like ones. */
    private static final class Best {
        int which;
        long above;
        private long below;

        void start() {
            which = NONE;
            above = 0;
            below = 1;
        }

        void offer(int which, long above, long below) {
            if (this.which != NONE && above * this.below <= this.above * below) return;
            this.which = which;
            this.above = above;
            this.below = below;
        }
    }

    /** A row of numbers of a sort, or missing; its cells are made once and used for each sort. */
    private static final class Sheet {
        int sort = MISSING, size;
        private final int[] cells = new int[CELLS_MOST];

        void become(int sort, int size) {
            this.sort = sort;
            this.size = Math.max(0, Math.min(size, CELLS_MOST));
            for (int i = 0; i < CELLS_MOST; i++) cells[i] = 0;
        }

        int read(int i) {
            return within(i, 0, CELLS_MOST - 1) ? cells[i] : 0;
        }

        void write(int i, int v) {
            if (!within(i, 0, CELLS_MOST - 1)) return;
            cells[i] = sort == BYTES ? (byte) v : sort == SHORTS ? (short) v : v;
        }

        void append(int v) {
            if (size >= CELLS_MOST) return;
            size++;
            write(size - 1, v);
        }

        /** Backwards where the places lie behind, as a row may be copied into itself. */
        void take(int at, Sheet from, int fromAt, int n) {
            for (int k = 0; k < n; k++) {
                int step = at > fromAt ? n - 1 - k : k;
                write(at + step, from.read(fromAt + step));
            }
        }
    }

    /** A TEXT as a row of steps over a stack, which needs no recursion and makes nothing when it is asked. */
    private static final class Text {
        static final int NUMBER = 2, NOT = 6, AND = 7, OR = 8, NAME = 9, LESS_ONE = 16;

        private static final int[] LEAST = {1, 0, 0};
        private static final int[] MOST = {50, 9, 999};
        private static final int NAMES = 6;

        /** Each step stands for a TOKEN of its own, so there are never more than the TAPE has bytes. */
        private final int[] steps = new int[TAPE_MOST];
        private final int[] values = new int[TAPE_MOST];
        private final int[] stack = new int[TAPE_MOST];
        private final int[] partEnds = new int[PARTS];
        /** What notch, after, off, over, more, price are. */
        private final int[] names = new int[NAMES];
        private int size, top;

        void empty() {
            size = 0;
        }

        void put(int step, int value) {
            if (size >= TAPE_MOST) return;
            steps[size] = step;
            values[size] = value;
            size++;
        }

        void endPart(int part) {
            if (within(part, 0, PARTS - 1)) partEnds[part] = size;
        }

        int says(int part, int notch, int after, int off, int over, int more, int price) {
            if (!within(part, 0, PARTS - 1)) return 0;
            names[0] = notch;
            names[1] = after;
            names[2] = off;
            names[3] = over;
            names[4] = more;
            names[5] = price;
            top = 0;
            for (int i = part == 0 ? 0 : partEnds[part - 1]; i < partEnds[part] && i < TAPE_MOST; i++) {
                run(steps[i], values[i]);
            }
            return Math.max(LEAST[part], Math.min(MOST[part], pop()));
        }

        private void run(int step, int value) {
            if (step == NUMBER || step == NAME) {
                push(step == NUMBER ? value : named(value));
                return;
            }
            int right = pop();
            if (step == LESS_ONE) push(-right);
            else if (step == NOT) push(right == 0 ? 1 : 0);
            else push(joined(step, pop(), right));
        }

        private int named(int name) {
            return name >= 0 && name < NAMES ? names[name] : 0;
        }

        private static int joined(int step, int left, int right) {
            switch (step) {
                case '+': return left + right;
                case '-': return left - right;
                case '*': return left * right;
                case '<': return left < right ? 1 : 0;
                case '=': return left == right ? 1 : 0;
                case AND: return left != 0 && right != 0 ? 1 : 0;
                default: return left != 0 || right != 0 ? 1 : 0;
            }
        }

        private void push(int v) {
            if (top < 0 || top >= TAPE_MOST) return;
            stack[top] = v;
            top++;
        }

        private int pop() {
            if (top < 1 || top > TAPE_MOST) return 0;
            top--;
            return stack[top];
        }
    }

    /** THE TAPE, and the reading of it; a TOKEN that is a sign is told by that sign's byte. */
    private static final class Tape {
        private static final int ENDED = 0, NO_TOKEN = 1;
        /** The keys of the parts and the six names are these and so many more. */
        private static final int FIRST_KEY = 3, FIRST_NAME = 10, LAST_NAME = 15;
        private static final int OPEN_MOST = 5, DIGITS_MOST = 4;

        private final int[] bytes = new int[TAPE_MOST];
        int size;
        private int place;
        private int token, tokenPlace, number;

        void put(int b) {
            if (!within(size, 0, TAPE_MOST - 1)) return;
            bytes[size] = b;
            size++;
        }

        private int byteAt(int i) {
            return i >= 0 && i < size && i < TAPE_MOST ? bytes[i] : -1;
        }

        /** Where the FAULT is, or NONE: the text then holds what was read. */
        int readInto(Text text) {
            text.empty();
            place = 0;
            readToken();
            for (int part = 0; part < PARTS; part++) {
                if (token != FIRST_KEY + part) return tokenPlace;
                readToken();
                if (!readOr(text, 0) || token != ';') return tokenPlace;
                text.endPart(part);
                readToken();
            }
            return token == ENDED ? NONE : tokenPlace;
        }

        // Each of these reads what its name says and answers false at a TOKEN that can't stand there;
        // open is how many of ( , not, - are open. A turn of a loop takes a TOKEN, so the tape's room bounds it.

        private boolean readOr(Text text, int open) {
            if (!readAnd(text, open)) return false;
            for (int i = 0; i < TAPE_MOST && token == Text.OR; i++) {
                readToken();
                if (!readAnd(text, open)) return false;
                text.put(Text.OR, 0);
            }
            return true;
        }

        private boolean readAnd(Text text, int open) {
            if (!readNot(text, open)) return false;
            for (int i = 0; i < TAPE_MOST && token == Text.AND; i++) {
                readToken();
                if (!readNot(text, open)) return false;
                text.put(Text.AND, 0);
            }
            return true;
        }

        private boolean readNot(Text text, int open) {
            if (token == Text.NOT) {
                if (open >= OPEN_MOST) return false;
                readToken();
                if (!readNot(text, open + 1)) return false;
                text.put(Text.NOT, 0);
                return true;
            }
            if (!readSum(text, open)) return false;
            if (token != '<' && token != '=') return true;
            int sign = token;
            readToken();
            if (!readSum(text, open)) return false;
            text.put(sign, 0);
            return true;
        }

        private boolean readSum(Text text, int open) {
            if (!readTerm(text, open)) return false;
            for (int i = 0; i < TAPE_MOST && (token == '+' || token == '-'); i++) {
                int sign = token;
                readToken();
                if (!readTerm(text, open)) return false;
                text.put(sign, 0);
            }
            return true;
        }

        private boolean readTerm(Text text, int open) {
            if (!readOne(text, open)) return false;
            for (int i = 0; i < TAPE_MOST && token == '*'; i++) {
                readToken();
                if (!readOne(text, open)) return false;
                text.put('*', 0);
            }
            return true;
        }

        private boolean readOne(Text text, int open) {
            if (token == '(' || token == '-') return open < OPEN_MOST && readOpened(text, open + 1);
            if (token == Text.NUMBER) text.put(Text.NUMBER, number);
            else if (within(token, FIRST_NAME, LAST_NAME)) text.put(Text.NAME, token - FIRST_NAME);
            else return false;
            readToken();
            return true;
        }

        private boolean readOpened(Text text, int open) {
            boolean less = token == '-';
            readToken();
            if (less) {
                if (!readOne(text, open)) return false;
                text.put(Text.LESS_ONE, 0);
                return true;
            }
            if (!readOr(text, open) || token != ')') return false;
            readToken();
            return true;
        }

        private void readToken() {
            for (int i = 0; i < TAPE_MOST && (byteAt(place) == 32 || byteAt(place) == 10); i++) place++;
            tokenPlace = place;
            int first = byteAt(place);
            if (first == -1) token = ENDED;
            else if (isLetter(first)) readWord();
            else if (isDigit(first)) readNumber();
            else {
                token = isSign(first) ? first : NO_TOKEN;
                place++;
            }
        }

        private void readWord() {
            for (int i = 0; i < TAPE_MOST && isLetter(byteAt(place)); i++) place++;
            if (isWord("runs")) token = FIRST_KEY + RUNS;
            else if (isWord("late")) token = FIRST_KEY + LATE;
            else if (isWord("costs")) token = FIRST_KEY + COSTS;
            else if (isWord("not")) token = Text.NOT;
            else if (isWord("and")) token = Text.AND;
            else if (isWord("or")) token = Text.OR;
            else if (isWord("notch")) token = FIRST_NAME;
            else if (isWord("after")) token = FIRST_NAME + 1;
            else if (isWord("off")) token = FIRST_NAME + 2;
            else if (isWord("over")) token = FIRST_NAME + 3;
            else if (isWord("more")) token = FIRST_NAME + 4;
            else if (isWord("price")) token = LAST_NAME;
            else token = NO_TOKEN;
        }

        private boolean isWord(String word) {
            if (place - tokenPlace != word.length()) return false;
            for (int i = 0; i < word.length(); i++) {
                if (byteAt(tokenPlace + i) != word.charAt(i)) return false;
            }
            return true;
        }

        private void readNumber() {
            number = 0;
            for (int i = 0; i < TAPE_MOST && isDigit(byteAt(place)); i++) {
                number = number * 10 + byteAt(place) - '0';
                place++;
            }
            token = place - tokenPlace > DIGITS_MOST ? NO_TOKEN : Text.NUMBER;
        }

        private static boolean isLetter(int b) {
            return b >= 'a' && b <= 'z';
        }

        private static boolean isDigit(int b) {
            return b >= '0' && b <= '9';
        }

        private static boolean isSign(int b) {
            return b == '(' || b == ')' || b == ';' || b == '+' || b == '-' || b == '*' || b == '<' || b == '=';
        }
    }
}
