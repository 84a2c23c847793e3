/** Promises 32 to 37: sums by lot, the book, images. */
public final class BookTest {
    private static final int[] FAR = {Integer.MIN_VALUE, Integer.MAX_VALUE};
    private static final long NO = JustFivePounds.NO;

    private static void due(String call, long got, long want) {
        Due.due(call, got, want);
    }

    private static JustFivePounds one(String law, int kindMore, int ahead, int change) {
        JustFivePounds x = Due.by(law);
        x.hand(kindMore, ahead, change);
        return x;
    }

    /** Promise 32. (SEED and 1) times 48271 modulo 2147483647 modulo 5: 1, 2, 3, 4, 0 of seeds 0 .. 4. */
    private static void draws() {
        JustFivePounds x = one("runs 10; late 1; costs off;", 0, 0, 0);
        int[] seeds = {0, 1, 2, 3, 4, 5, 7, 99998, 99999}, lates = {1, 2, 3, 4, 0, 1, 3, 0, 1};
        for (int i = 0; i < seeds.length; i++) {
            due("a of seed " + seeds[i], x.drawn(seeds[i], 0, 1), lates[i]);
            due("END of seed " + seeds[i], x.drawn(seeds[i], 0, 0), 501 + 10 * lates[i]);
        }
        // 44488 times 48271 is 2147480248, and 44489 times 48271 passes 2147483647
        due("44487", x.drawn(44487, 0, 1), 3);
        due("44488", x.drawn(44488, 0, 1), 2);
        x = one("runs 10; late 4-after; costs off;", 0, 0, 0);
        // of 10: 1, 2, 3, .. 9 of seeds 0 .. 8, 0 of seed 9
        int[] falling = {0, 0, 0, 1, 1, 1, 2, 2, 3, 0};
        for (int seed = 0; seed < 10; seed++) due("a of seed " + seed, x.drawn(seed, 0, 1), falling[seed]);
        x = one("runs 10; late 1; costs off;", 20, 0, 0);
        // of 4: 3, 2, 1, 0, and a 0 is never
        int[] late = {4, 3, 2, 1, 4, 3, 2, 1};
        for (int seed = 0; seed < 8; seed++) due("a of seed " + seed, x.drawn(seed, 0, 1), late[seed]);
        x = one("runs 10; late 0; costs off;", 20, 0, 0);
        due("none: a 0", x.drawn(3, 0, 1), 0);
        for (int bad : new int[] {-1, 100000, FAR[0], FAR[1]}) due("seed " + bad, x.drawn(bad, 0, 0), -7);
        for (int bad : new int[] {-1, 2, FAR[0], FAR[1]}) due("what " + bad, x.drawn(0, 0, bad), -7);
        for (int bad : new int[] {-1, 1, FAR[0], FAR[1]}) {
            due("hand " + bad, x.drawn(0, bad, 0), -5);
            due("the first one told", x.drawn(-1, bad, 2), -5);
        }
    }

    private static void odds(JustFivePounds x, int seed, int seeds, long above, long below) {
        Due.dueBoth("odds(" + seed + ", " + seeds + ")", x.odds(seed, seeds, 0, 0), x.odds(seed, seeds, 0, 1), above, below);
    }

    /** Promise 33. */
    private static void odds() {
        JustFivePounds x = one("runs 10; late 1; costs off;", 0, 20, 0);
        x.set(1, 0);
        // 480, 490, 500: just by a 2, that is of seeds 1, 6, 11, ..
        odds(x, 0, 1, 0, 1);
        odds(x, 1, 1, 1, 1);
        odds(x, 0, 2, 1, 2);
        odds(x, 0, 5, 1, 5);
        odds(x, 0, 7, 2, 7);
        odds(x, 1, 10, 1, 5);
        odds(x, 2, 4, 0, 1);
        odds(x, 0, 99, 20, 99);
        odds(x, 99999, 1, 0, 1);
        // 99999, 100000, .. go on with 1, 2, 3, 4, 0
        odds(x, 99999, 2, 1, 2);
        odds(x, 99999, 3, 1, 3);
        odds(x, 99999, 99, 20, 99);
        x.set(1, 1);
        odds(x, 0, 99, 0, 1);
        for (int bad : new int[] {-1, 100000, FAR[0], FAR[1]}) due("seed " + bad, x.odds(bad, 1, 0, 0), NO);
        for (int bad : new int[] {-1, 0, 100, FAR[0], FAR[1]}) due("seeds " + bad, x.odds(0, bad, 0, 0), NO);
        for (int bad : new int[] {-1, 1, FAR[0], FAR[1]}) due("hand " + bad, x.odds(0, 1, bad, 0), NO);
        for (int bad : new int[] {-1, 2, FAR[0], FAR[1]}) due("part " + bad, x.odds(0, 1, 0, bad), NO);
    }

    private static void book(JustFivePounds x, int slips, int just, int spent) {
        due("SLIPS", x.book(0), slips);
        due("JUST ones", x.book(1), just);
        due("SPENT", x.book(2), spent);
    }

    /** Promises 34 and 35. */
    private static void serves() {
        JustFivePounds x = one("runs 10; late 1; costs off+more+100*over;", 7, 20, 0);
        x.set(1, 0);
        book(x, 0, 0, 0);
        due("drawn changes nothing", x.drawn(1, 0, 0), 500);
        book(x, 0, 0, 0);
        due("490", x.serve(0, 0), 490);
        book(x, 1, 0, 17);
        due("500", x.serve(1, 0), 500);
        book(x, 2, 1, 24);
        due("510", x.serve(2, 0), 510);
        book(x, 3, 1, 24 + 117);
        due("480", x.serve(4, 0), 480);
        book(x, 4, 1, 24 + 117 + 27);
        due("99999", x.serve(99999, 0), 490);
        for (int bad : new int[] {-1, 100000, FAR[0], FAR[1]}) due("seed " + bad, x.serve(bad, 0), -7);
        for (int bad : new int[] {-1, 1, FAR[0], FAR[1]}) {
            due("hand " + bad, x.serve(0, bad), -5);
            due("the first one told", x.serve(-1, bad), -5);
        }
        book(x, 5, 1, 24 + 117 + 27 + 17);
        for (int bad : new int[] {-1, 3, FAR[0], FAR[1]}) due("book(" + bad + ")", x.book(bad), -2);
    }

    /** Promise 34: FULL; more calls than one run may have, and the room is not touched by it. */
    private static void theBookIsFull() {
        JustFivePounds x = one("runs 10; late 1; costs 999;", 0, 0, 0);
        for (int slip = 1; slip <= 999; slip++) {
            due("serve", x.serve(4, 0), 501);
            if (slip % 100 == 99) book(x, slip, 0, 999 * slip);
        }
        due("a thousandth", x.serve(4, 0), -4);
        due("-7 ahead of FULL", x.serve(-1, 0), -7);
        due("-5 ahead of FULL", x.serve(4, 1), -5);
        book(x, 999, 0, 999 * 999);
    }

    private static void tell(JustFivePounds x, String when, int... want) {
        for (int what = 0; what < 7; what++) due(when + ", count(" + what + ")", x.count(what), want[what]);
    }

    /** Promises 36 and 37. */
    private static void images() {
        JustFivePounds x = new JustFivePounds();
        due("there is none", x.back(), -3);
        Due.feed(x, "runs 10; late 1; costs off;");
        x.text();
        x.set(0, 400);
        x.set(1, 2);
        x.set(2, 50);
        x.set(3, 600);
        x.hand(23, 5, 100);
        x.hand(10, 6, 110);
        x.force(1);
        x.serve(0, 0);
        x.serve(0, 1);
        x.set(0, 402);
        due("just", x.serve(4, 1), 402);
        due("JUST ones", x.book(1), 1);
        x.set(0, 400);
        int spent = x.book(2);
        due("there is none still", x.back(), -3);
        due("image", x.image(), 2);
        for (int turn = 0; turn < 2; turn++) {
            x.set(0, 402);
            due("another just one", x.serve(4, 1), 402);
            due("JUST ones", x.book(1), 2);
            x.set(0, 401);
            x.set(1, 3);
            x.set(2, 51);
            x.set(3, 601);
            x.train(0, 0, 7);
            x.train(0, 1, 8);
            x.train(1, 0, 9);
            x.train(1, 1, 10);
            due("a third HAND", x.hand(31 + turn, 1, 1), 2);
            x.force(0);
            x.serve(0, 0);
            Due.feed(x, "runs 9; late 1; costs off;");
            due("another text", x.text(), 2 + turn);
            Due.row(x, 0, 2, 9);
            x.feed(2, 1, 1, 1, 1, 1);
            tell(x, "then", 3, 401, 3, 51, 601, 3 + turn, 0);
            due("back", x.back(), 2);
            tell(x, "back", 2, 400, 2, 50, 600, 3 + turn, 1);
            due("the tape stays", x.count(7), 2);
            due("sheets stay", x.cell(0, 0, 8), 1);
            int[][] told = {{2, 3, 5, 100}, {1, 0, 6, 110}};
            for (int h = 0; h < 2; h++) for (int w = 0; w < 4; w++) due("told", x.told(h, w), told[h][w]);
            due("none such", x.told(2, 0), -5);
            book(x, 3, 1, spent);
            x.text();
        }
        due("image", x.image(), 2);
        due("a third", x.hand(44, 2, 3), 2);
        due("a fourth", x.hand(44, 2, 3), 3);
        due("a fifth", x.hand(44, 2, 3), 4);
        due("image of five", x.image(), 5);
        x.train(4, 0, 99);
        due("the last image", x.back(), 5);
        due("told", x.told(4, 2), 2);
        due("told", x.told(2, 0), 4);
        due("FULL", x.hand(0, 0, 0), -4);
        JustFivePounds y = new JustFivePounds();
        due("image of none", y.image(), 0);
        y.hand(0, 0, 0);
        due("back to none", y.back(), 0);
        due("count", y.count(0), 0);
        due("who", y.who(0), -1);
        due("told", y.told(0, 0), -5);
        due("hand", y.hand(19, 3, 4), 0);
        due("its own", y.told(0, 0), 1);
        due("its own", y.told(0, 2), 3);
    }

    public static void main(String[] args) {
        draws();
        odds();
        serves();
        theBookIsFull();
        images();
        Due.end("BookTest");
    }
}
