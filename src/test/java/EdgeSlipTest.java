import java.util.Arrays;

/** The edges that promises 25 to 37 name, sentence by sentence: told slips, sums by lot, the book, images. */
public final class EdgeSlipTest {
    private static final long NO = JustFivePounds.NO;
    /** 500, 510, 520, 530 of 4, 3, 2, 1 by 10; 540 never. */
    private static final String FALLING = "runs 10;late 4-after;costs off;";
    private static final String TENS = "runs 10;late 1;costs off;", NOTCHES = "runs notch*10;late 1;costs off;";

    private static void due(String call, long got, long want) {
        Edge.due(call, got, want);
    }

    /** A pump that doesn't drip, and one HAND. */
    private static JustFivePounds one(String law, int kindMore, int ahead) {
        JustFivePounds x = Due.by(law);
        x.set(1, 0);
        x.hand(kindMore, ahead, 0);
        return x;
    }

    /** Another TEXT, which is not THE LAW. */
    private static void text(JustFivePounds x, String law) {
        Due.feed(x, law);
        x.text();
    }

    private static void judged(JustFivePounds x, int want, int... sums) {
        Due.row(x, 0, 2, sums);
        due("judge of " + Arrays.toString(sums), x.judge(0, 0), want);
    }

    // ---- promises 25 and 26: judge, parts

    private static void judgeTellsTheFirst() {
        Edge.of(25, "the first (from 0) that is not LIKELY at all; -1: none.");
        JustFivePounds x = one(FALLING, 0, 0);
        judged(x, -1);
        judged(x, 0, 499);
        judged(x, 0, 540);
        judged(x, -1, 530);
        judged(x, 1, 500, 501, 502);
        judged(x, 2, 500, 530, 0);
        judged(x, 0, -500);
        judged(x, 0, Integer.MIN_VALUE, Integer.MAX_VALUE);
        int[] forty = new int[40];
        Arrays.fill(forty, 520);
        judged(x, -1, forty);
        forty[39] = 521;
        judged(x, 39, forty);
        x = one("runs 10;late 0;costs off;", 0, 0);
        judged(x, -1, 500);
        judged(x, 0, 510);
        x = one(FALLING, 0, 99);
        x.set(0, 99);
        judged(x, -1, 0, 10, 20, 30);
    }

    private static void judgeRefuses() {
        Edge.of(25, "BAD: SHEET; -11; -5: no such HAND.");
        JustFivePounds x = one(FALLING, 0, 0);
        x.sheet(0, 2, 1);
        due("judge", x.judge(0, 0), 0);
        for (int bad : Edge.beside(0, 3)) {
            due("SHEET " + bad, x.judge(bad, 0), -2);
            due("BAD is told first", x.judge(bad, 1), -2);
        }
        for (int bad : Edge.beside(0, 0)) {
            due("HAND " + bad, x.judge(0, bad), -5);
            for (int s = 1; s < 4; s++) due("-11 is told first", x.judge(s, bad), -11);
        }
        for (int s = 1; s < 4; s++) due("missing", x.judge(s, 0), -11);
    }

    private static void parted(JustFivePounds x, long want, int... sums) {
        Due.row(x, 0, 2, sums);
        due("parts of " + Arrays.toString(sums), x.parts(0, 0), want);
    }

    private static void partsAreCut() {
        Edge.of(26, "1000000000, of each of these times OFTEN of all a whose END is that, by ALL (cut).");
        JustFivePounds x = one("runs 10;late (after=0)*2+(after=1);costs off;", 0, 0);
        parted(x, 1000000000);
        // two thirds, cut each time: 666666666, 444444444, 296296296, 197530864, 131687242, 87791494
        parted(x, 666666666, 500);
        parted(x, 87791494, 500, 500, 500, 500, 500, 500);
        parted(x, 333333333, 510);
        parted(x, 111111111, 510, 510);
        parted(x, 0, 520);
        parted(x, 0, 500, 520, 500);
        int[] forty = new int[40];
        Arrays.fill(forty, 510);
        parted(x, 0, forty);
        Arrays.fill(forty, 500);
        x.set(3, 500);
        parted(x, 1000000000, forty);
        x = one(TENS, 59, 0);
        x.set(3, 520);
        // 520 of a 2, 3, 4: 30 of 35
        parted(x, 857142857, 520);
        parted(x, 734693877, 520, 520);
        Edge.of(26, "NO: SHEET; it is missing; no such HAND.");
        for (int bad : Edge.beside(0, 3)) due("SHEET " + bad, x.parts(bad, 0), NO);
        for (int bad : Edge.beside(0, 0)) due("HAND " + bad, x.parts(0, bad), NO);
        for (int s = 1; s < 4; s++) due("missing", x.parts(s, 0), NO);
    }

    // ---- promises 27 to 30: fits, whose, rule, laws

    private static void fitted(JustFivePounds x, int sort, long which, long most, int... sums) {
        Due.row(x, 0, 2, sums);
        due("fits " + 10 * sort + " of " + Arrays.toString(sums), x.fits(0, 0, 10 * sort), which);
        due("fits " + (10 * sort + 1) + " of " + Arrays.toString(sums), x.fits(0, 0, 10 * sort + 1), most);
    }

    private static void fitsIsWithinItsLimits() {
        Edge.of(27, "The KIND (sort 0), MORE (1), AHEAD (2; 0 .. 99) by which, were it the HAND's, that would be most");
        // 510, 540, 570, 600, 630 of CARELESS; 600, 630 of no other
        JustFivePounds x = one(NOTCHES, 0, 0);
        x.train(0, 1, 500);
        fitted(x, 0, 5, 200000000, 600);
        x = one(TENS, 55, 0);
        // MORE 9: 13 of 35
        fitted(x, 1, 9, 371428571, 540);
        fitted(x, 1, 0, 200000000, 500);
        due("its MORE is as it was", x.told(0, 1), 5);
        x = one("runs 1;late after=0;costs off;", 0, 50);
        fitted(x, 2, 99, 1000000000, 401);
        fitted(x, 2, 0, 1000000000, 500);
        fitted(x, 2, 0, 0, 400);
        due("it LETS go as it did", x.told(0, 2), 50);
        Edge.of(27, "of like ones the least (what 0), that (1)");
        x = one(TENS, 47, 15);
        for (int sort = 0; sort < 3; sort++) {
            fitted(x, sort, 0, 1000000000);
            fitted(x, sort, 0, 0, 7);
        }
        x = one("runs 10;late 9;costs off;", 25, 0);
        // MORE 4 .. 7 are like 0 .. 3: each a as OFTEN
        fitted(x, 1, 0, 250000000, 540);
        x = one(TENS, 0, 50);
        fitted(x, 2, 10, 200000000, 490);
    }

    private static void fitsRefuses() {
        Edge.of(27, "NO: likewise; sortWhat.");
        JustFivePounds x = one(TENS, 0, 0);
        x.sheet(0, 2, 0);
        for (int sortWhat = -25; sortWhat <= 45; sortWhat++) {
            boolean told = sortWhat >= 0 && sortWhat <= 21 && sortWhat % 10 <= 1;
            if (!told) due("sortWhat " + sortWhat, x.fits(0, 0, sortWhat), NO);
            else due("sortWhat " + sortWhat, x.fits(0, 0, sortWhat), sortWhat % 10 == 0 ? 0 : 1000000000);
        }
        for (int bad : Edge.beside(0, 21)) due("sortWhat " + bad, x.fits(0, 0, bad), NO);
        for (int bad : Edge.beside(0, 3)) due("SHEET " + bad, x.fits(bad, 0, 0), NO);
        for (int bad : Edge.beside(0, 0)) due("HAND " + bad, x.fits(0, bad, 0), NO);
        for (int s = 1; s < 4; s++) due("missing", x.fits(s, 0, 0), NO);
    }

    private static void whoseMayBeNobodys() {
        Edge.of(28, "-1: there are none (an answer, asked behind NO).");
        JustFivePounds x = Due.by(TENS);
        x.set(1, 0);
        x.sheet(0, 2, 0);
        for (int what = 0; what < 2; what++) due("there are none", x.whose(0, what), -1);
        for (int bad : Edge.beside(0, 1)) due("NO, though there are none", x.whose(0, bad), NO);
        for (int bad : Edge.beside(0, 3)) due("NO, though there are none", x.whose(bad, 0), NO);
        due("missing, though there are none", x.whose(1, 0), NO);
        Edge.of(28, "of like ones the first (what 0), that (1)");
        for (int h = 0; h < 5; h++) x.hand(0, h < 3 ? 20 : 0, 0);
        due("all alike", x.whose(0, 0), 0);
        due("all alike", x.whose(0, 1), 1000000000);
        Due.row(x, 0, 2, 530);
        due("500 .. 540 alone", x.whose(0, 0), 3);
        due("500 .. 540 alone", x.whose(0, 1), 200000000);
        Due.row(x, 0, 2, 1);
        due("none of all", x.whose(0, 0), 0);
        due("none of all", x.whose(0, 1), 0);
        Edge.of(28, "NO: SHEET; it is missing; what.");
        for (int bad : Edge.beside(0, 1)) due("what " + bad, x.whose(0, bad), NO);
        for (int bad : Edge.beside(0, 3)) due("SHEET " + bad, x.whose(bad, 0), NO);
        for (int s = 1; s < 4; s++) due("missing", x.whose(s, 0), NO);
    }

    private static void ruleTellsTheFirst() {
        Edge.of(29, "of like ones the first (what 0), that (1)");
        JustFivePounds x = one(FALLING, 0, 0);
        Due.row(x, 0, 2, 500, 500, 500);
        due("of two TEXTS", x.rule(0, 0, 0), 1);
        due("of two TEXTS", x.rule(0, 0, 1), 64000000);
        text(x, "runs 10;late after;costs off;");
        text(x, FALLING);
        text(x, "runs 10;late 4*(after=4);costs off;");
        text(x, TENS);
        int[] sums = {500, 530, 540};
        long[] which = {1, 2, 4}, most = {400000000, 300000000, 1000000000};
        for (int law = 0; law < 6; law++) {
            x.force(law);
            for (int i = 0; i < sums.length; i++) {
                Due.row(x, 0, 2, sums[i]);
                due("rule of " + sums[i], x.rule(0, 0, 0), which[i]);
                due("rule of " + sums[i], x.rule(0, 0, 1), most[i]);
            }
            Due.row(x, 0, 2, 7);
            due("by none", x.rule(0, 0, 0), 0);
            due("by none", x.rule(0, 0, 1), 0);
            x.sheet(0, 2, 0);
            due("by all", x.rule(0, 0, 0), 0);
            due("by all", x.rule(0, 0, 1), 1000000000);
            due("THE LAW is as it was", x.count(6), law);
        }
        Edge.of(29, "NO: as of parts(); what.");
        for (int bad : Edge.beside(0, 1)) due("what " + bad, x.rule(0, 0, bad), NO);
        for (int bad : Edge.beside(0, 3)) due("SHEET " + bad, x.rule(bad, 0, 0), NO);
        for (int bad : Edge.beside(0, 0)) due("HAND " + bad, x.rule(0, bad, 0), NO);
        for (int s = 1; s < 4; s++) due("missing", x.rule(s, 0, 0), NO);
    }

    private static void lawsAreBits() {
        Edge.of(30, "TEXTS (bits), were they THE LAW, by which judge() would be -1.");
        JustFivePounds x = new JustFivePounds();
        x.set(1, 0);
        x.hand(0, 0, 0);
        x.sheet(0, 2, 0);
        due("of one TEXT, an empty row", x.laws(0, 0), 1);
        for (int t = 1; t <= 5; t++) {
            text(x, "runs 10;late after=" + (t - 1) + ";costs off;");
            due("an empty row", x.laws(0, 0), (2 << t) - 1);
        }
        for (int t = 1; t <= 5; t++) {
            Due.row(x, 0, 2, 490 + 10 * t);
            due("by TEXT " + t + " alone", x.laws(0, 0), 1 << t);
        }
        Due.row(x, 0, 2, 504, 528);
        due("by TEXT 0 alone", x.laws(0, 0), 1);
        Due.row(x, 0, 2, 500, 510);
        due("by none", x.laws(0, 0), 0);
        Edge.of(30, "BAD, -11, -5 as of judge().");
        for (int bad : Edge.beside(0, 3)) {
            due("SHEET " + bad, x.laws(bad, 0), -2);
            due("BAD is told first", x.laws(bad, 1), -2);
        }
        for (int bad : Edge.beside(0, 0)) {
            due("HAND " + bad, x.laws(0, bad), -5);
            for (int s = 1; s < 4; s++) due("-11 is told first", x.laws(s, bad), -11);
        }
        for (int s = 1; s < 4; s++) due("missing", x.laws(s, 0), -11);
    }

    // ---- promise 31: film

    private static void filmMakesARow() {
        Edge.of(31, "A SHEET truly becomes ENDS of all a that are OFTEN above 0, by a (ints): how many.");
        JustFivePounds x = one(FALLING, 0, 0);
        for (int sort = -1; sort <= 2; sort++) {
            x.sheet(1, sort, 40);
            due("film of a SHEET of sort " + sort, x.film(1, 0), 4);
            due("its last number", x.cell(1, 4, 0), -12);
            due("it is of ints", x.handsBy(1, 2, 0, 0), 0);
            for (int a = 0; a < 4; a++) {
                x.sheet(2, 2, 1);
                due("a number", x.copy(1, a, 2, 0, 1), 1);
                x.set(0, 500 + 10 * a);
                due("number " + a, x.judge(2, 0), -1);
                due("it is the END of a 0", x.parts(2, 0), 400000000);
                x.set(0, 500);
            }
        }
        due("none is OFTEN: a 0", one("runs 10;late 0;costs off;", 0, 0).film(0, 0), 1);
        due("a 0 never", one(TENS, 20, 0).film(0, 0), 4);
        JustFivePounds full = one(TENS, 0, 0);
        full.set(3, 500);
        due("all five, though alike", full.film(3, 0), 5);
        due("all five, though alike", full.parts(3, 0), 1000000000);
        Edge.of(31, "BAD: SHEET; -5: no such HAND.");
        for (int bad : Edge.beside(0, 3)) {
            due("SHEET " + bad, x.film(bad, 0), -2);
            due("BAD is told first", x.film(bad, 1), -2);
        }
        for (int bad : Edge.beside(0, 0)) {
            due("HAND " + bad, x.film(1, bad), -5);
            due("a missing one stays so", x.film(3, bad), -5);
            due("a missing one stays so", x.cell(3, 0, 0), -11);
        }
        due("it is as it was", x.parts(1, 0), 2400000);
    }

    // ---- promises 32 to 35: drawn, odds, serve, book

    private static void drawnIsTheFirstAbove() {
        Edge.of(32, "DRAWN", "of a 0, 1, .. the first with which OFTEN of it and all ahead is above that");
        JustFivePounds x = one(FALLING, 0, 0);
        // the LOT is 1 .. 9, 0 of seeds 0 .. 9
        int[] drawn = {0, 0, 0, 1, 1, 1, 2, 2, 3, 0};
        for (int seed = 0; seed < 10; seed++) {
            due("a of seed " + seed, x.drawn(seed, 0, 1), drawn[seed]);
            due("END of seed " + seed, x.drawn(seed, 0, 0), 500 + 10 * drawn[seed]);
        }
        x = one(TENS, 20, 0);
        // of 4: 3, 2, 1, 0 of seeds 0 .. 3; a 0 is never
        for (int seed = 0; seed < 4; seed++) due("a of seed " + seed, x.drawn(seed, 0, 1), 4 - seed);
        x = one("runs 10;late 0;costs off;", 0, 0);
        for (int seed = 0; seed < 4; seed++) due("ALL is 1", x.drawn(seed, 0, 1), 0);
        Edge.of(32, "DRAWN", "by a SEED (0 .. 99999)");
        x = one(TENS, 0, 0);
        // 48271 is 1 more than 5 divides; 100000 times it, modulo 2147483647, is 532132706
        due("seed 0", x.drawn(0, 0, 1), 1);
        due("seed 99999", x.drawn(99999, 0, 1), 1);
        Edge.of(32, "DRAWN", "(SEED and 1) times 48271 modulo 2147483647, modulo ALL");
        // 44488 times 48271 is 2147480248; 44489 times is 44872 above 2147483647
        due("seed 44487", x.drawn(44487, 0, 1), 3);
        due("seed 44488", x.drawn(44488, 0, 1), 2);
        due("seed 44489", x.drawn(44489, 0, 1), (44872 + 48271) % 5);
        // 88977 times is 2 * 2147483647 and 41473 more
        due("seed 88975", x.drawn(88975, 0, 1), (2147483647 - 48271 + 41473) % 5);
        due("seed 88976", x.drawn(88976, 0, 1), 41473 % 5);
        Edge.of(32, "-5: no such HAND; -7: SEED, what.");
        for (int bad : Edge.beside(0, 99999)) due("SEED " + bad, x.drawn(bad, 0, 0), -7);
        for (int bad : Edge.beside(0, 1)) due("what " + bad, x.drawn(0, 0, bad), -7);
        for (int bad : Edge.beside(0, 0)) {
            due("HAND " + bad, x.drawn(0, bad, 0), -5);
            due("-5 is told first", x.drawn(-1, bad, 0), -5);
            due("-5 is told first", x.drawn(0, bad, 2), -5);
        }
    }

    private static void odds(JustFivePounds x, int seed, int seeds, long above, long below) {
        Edge.dueBoth("odds of " + seed + ", " + seeds, x.odds(seed, seeds, 0, 0), x.odds(seed, seeds, 0, 1), above, below);
    }

    private static void oddsOfSoManySeeds() {
        Edge.of(33, "In how many of so many (1 .. 99) seeds");
        // 500 is the END of a 0: of seeds 4, 9, ..
        JustFivePounds x = one(TENS, 0, 0);
        odds(x, 3, 1, 0, 1);
        odds(x, 4, 1, 1, 1);
        odds(x, 0, 99, 19, 99);
        odds(x, 4, 99, 20, 99);
        Edge.of(33, "SEED and each 1 more (they may pass 99999)");
        // 532132706 of seed 99999 and 48271 of each more: 1, 2, 3, 4, 0 modulo 5
        odds(x, 99999, 1, 0, 1);
        odds(x, 99999, 4, 0, 1);
        odds(x, 99999, 6, 1, 6);
        odds(x, 99999, 99, 19, 99);
        Edge.of(33, "END is MARK: part 0 above, 1 below the line, in lowest terms.");
        odds(x, 0, 10, 1, 5);
        odds(x, 0, 9, 1, 9);
        odds(x, 5, 4, 0, 1);
        Edge.of(33, "NO: none such.");
        for (int bad : Edge.beside(0, 99999)) due("SEED " + bad, x.odds(bad, 1, 0, 0), NO);
        for (int bad : Edge.beside(1, 99)) due("seeds " + bad, x.odds(0, bad, 0, 0), NO);
        for (int bad : Edge.beside(0, 0)) due("HAND " + bad, x.odds(0, 1, bad, 0), NO);
        for (int bad : Edge.beside(0, 1)) due("part " + bad, x.odds(0, 1, 0, bad), NO);
    }

    private static void book(JustFivePounds x, int slips, int just, int spent) {
        due("SLIPS", x.book(0), slips);
        due("JUST ones", x.book(1), just);
        due("SPENT", x.book(2), spent);
    }

    private static void theBookHasItsLimits() {
        Edge.of(35, "THE BOOK", "SLIPS (0 .. 999), JUST ones, SPENT (all 0 at first)");
        book(new JustFivePounds(), 0, 0, 0);
        JustFivePounds x = one("runs 10;late after<2;costs 999*over;", 0, 0);
        Edge.of(34, "SLIPS are 1 more, JUST ones, if END is MARK, SPENT is COST of it more: END.");
        due("a just one", x.serve(1, 0), 500);
        book(x, 1, 1, 0);
        due("one above", x.serve(0, 0), 510);
        book(x, 2, 1, 999);
        x.train(0, 0, 10);
        due("one below", x.serve(1, 0), 490);
        book(x, 3, 1, 999);
        Edge.of(34, "-5: no such HAND; -7: SEED; FULL: 999 SLIPS.");
        for (int bad : Edge.beside(0, 99999)) due("SEED " + bad, x.serve(bad, 0), -7);
        for (int bad : Edge.beside(0, 0)) {
            due("HAND " + bad, x.serve(0, bad), -5);
            due("-5 is told first", x.serve(-1, bad), -5);
        }
        book(x, 3, 1, 999);
        x.train(0, 0, 0);
        for (int slips = 4; slips <= 999; slips++) due("slip " + slips, x.serve(0, 0), 510);
        book(x, 999, 1, 999 * 997);
        due("FULL", x.serve(0, 0), -4);
        for (int bad : Edge.beside(0, 99999)) due("-7 is told first", x.serve(bad, 0), -7);
        for (int bad : Edge.beside(0, 0)) due("-5 is told first", x.serve(0, bad), -5);
        book(x, 999, 1, 999 * 997);
        Edge.of(35, "0 SLIPS, 1 JUST ones, 2 SPENT. BAD.");
        for (int bad : Edge.beside(0, 2)) due("book(" + bad + ")", x.book(bad), -2);
    }

    // ---- promises 36 and 37: image, back

    private static void backNeedsAnImage() {
        Edge.of(37, "STATE: there is none.");
        JustFivePounds x = one(TENS, 0, 0);
        due("back()", x.back(), -3);
        due("it changed nothing", x.count(0), 1);
        Edge.of(36, "AN IMAGE is kept: how many HANDS.");
        due("image()", x.image(), 1);
        due("back()", x.back(), 1);
        due("back() again", x.back(), 1);
        due("image() of none", new JustFivePounds().image(), 0);
        for (int h = 1; h < 5; h++) x.hand(0, 0, 0);
        due("image() of five", x.image(), 5);
        due("back() to five", x.back(), 5);
    }

    private static void handsThatCameSinceAreNone() {
        Edge.of(37, "HANDS that came since are none: how many there are");
        JustFivePounds x = new JustFivePounds();
        x.image();
        for (int turn = 0; turn < 3; turn++) {
            for (int h = 0; h < 5; h++) due("hand()", x.hand(10 * h + turn, h, h), h);
            due("a sixth", x.hand(0, 0, 0), -4);
            due("back()", x.back(), 0);
            due("HANDS", x.count(0), 0);
            for (int h = 0; h < 5; h++) due("told(" + h + ", 0)", x.told(h, 0), -5);
            due("who(0)", x.who(0), -1);
            due("taken(0, 0)", x.taken(0, 0), -11);
        }
        x.hand(12, 34, 56);
        x.image();
        x.hand(23, 45, 67);
        due("back() to one", x.back(), 1);
        due("a new one in its place", x.hand(31, 54, 76), 1);
        int[] want = {3, 1, 54, 76};
        for (int what = 0; what < 4; what++) due("told(1, " + what + ")", x.told(1, what), want[what]);
        due("the last image is kept", x.back(), 1);
    }

    private static void anImageKeepsSoMuch() {
        Edge.of(37, "AN IMAGE", "keeps THE PUMP, what HANDS LET go AHEAD, CHANGE at, THE BOOK, how many HANDS there are, THE LAW.");
        JustFivePounds x = one(TENS, 23, 7);
        x.set(2, 41);
        x.set(3, 4999);
        x.serve(4, 0);
        int[] counts = new int[8], books = {x.book(0), x.book(1), x.book(2)};
        for (int what = 0; what < 8; what++) counts[what] = x.count(what);
        x.image();
        x.set(0, 3);
        x.set(1, 9);
        x.set(2, 1);
        x.set(3, 1);
        x.train(0, 0, 99);
        x.train(0, 1, 500);
        x.force(0);
        x.serve(1, 0);
        x.set(0, 1);
        due("a just one", x.serve(1, 0), 1);
        text(x, "runs 3;late 3;costs 3;");
        x.feed(3, 'x', 'x', 'x', 'x', 'x');
        Due.row(x, 2, 2, 500);
        due("back()", x.back(), 1);
        for (int what = 0; what < 5; what++) due("count(" + what + ")", x.count(what), counts[what]);
        due("THE LAW", x.count(6), 1);
        due("AHEAD", x.told(0, 2), 7);
        due("CHANGES", x.told(0, 3), 0);
        for (int what = 0; what < 3; what++) due("book(" + what + ")", x.book(what), books[what]);
        Edge.of(37, "All that it keeps is as in THE IMAGE");
        due("TEXTS aren't in it", x.count(5), 3);
        due("THE TAPE isn't", x.count(7), 3);
        due("SHEETS aren't", x.cell(2, 0, 501), 1);
    }

    public static void main(String[] args) {
        judgeTellsTheFirst();
        judgeRefuses();
        partsAreCut();
        fitsIsWithinItsLimits();
        fitsRefuses();
        whoseMayBeNobodys();
        ruleTellsTheFirst();
        lawsAreBits();
        filmMakesARow();
        drawnIsTheFirstAbove();
        oddsOfSoManySeeds();
        theBookHasItsLimits();
        backNeedsAnImage();
        handsThatCameSinceAreNone();
        anImageKeepsSoMuch();
        Edge.allTold(25, 37, "DRAWN", "THE BOOK", "AN IMAGE");
        Due.end("EdgeSlipTest");
    }
}
