/** Promises 16 to 21: what is best, and sums that are round in both ways. */
public final class BestTest {
    private static final int[] FAR = {Integer.MIN_VALUE, Integer.MAX_VALUE};
    private static final long NO = JustFivePounds.NO;

    private static void due(String call, long got, long want) {
        Due.due(call, got, want);
    }

    private static JustFivePounds one(String law, int drips, int kindMore, int ahead, int change) {
        JustFivePounds x = Due.by(law);
        x.set(1, drips);
        x.hand(kindMore, ahead, change);
        return x;
    }

    /** Promise 16. */
    private static void aheads() {
        String ones = "runs 1; late after=0; costs off;";
        for (int drips = 0; drips < 10; drips++) {
            JustFivePounds x = one(ones, drips, 0, 50, 0);
            due("ahead of DRIPS, by COST", x.ahead(0, 0), drips);
            due("ahead of DRIPS, by MARK", x.ahead(0, 1), drips);
            due("it LETS go as before", x.told(0, 2), 50);
        }
        JustFivePounds x = one("runs 10; late after; costs off;", 0, 0, 0, 0);
        due("tens, by COST", x.ahead(0, 0), 30);
        due("tens, by MARK", x.ahead(0, 1), 40);
        x = one("runs 10; late after=0; costs off;", 1, 0, 77, 0);
        due("like ones, the least", x.ahead(0, 0), 0);
        due("never just: all are like", x.ahead(0, 1), 0);
        x.set(1, 0);
        x.set(0, 505);
        due("500 is as far as 510: the one AHEAD that is least", x.ahead(0, 0), 0);
        x.set(0, 504);
        due("500 is nearer", x.ahead(0, 0), 4);
        x = one("runs 1; late after=0; costs 99-off;", 0, 0, 0, 0);
        x.set(0, 200);
        due("the most", x.ahead(0, 0), 99);
        x = one("runs 1; late after=0; costs off<98 or 98<off;", 0, 0, 0, 0);
        due("98", x.ahead(0, 0), 98);
        // a NOTCH of 3 is late as often for each a, one of 1 never: the HAND is just only with a 0 alone
        x = one("runs 1+(notch=3)*6; late (notch=3)*9; costs off;", 0, 20, 0, 400);
        due("by what is LIKELY, not by how OFTEN", x.ahead(0, 1), 0);
        x = one("runs 10*notch+more; late after=1; costs off;", 0, 23, 0, 300);
        // 33 each till 300 are lacking: 231; then 13 each: 491 lets go at 9, so that 13 more are 4 too many; 478, at 22
        due("of its own KIND, MORE, CHANGES", x.ahead(0, 0), 9);
        x.set(0, 504);
        due("of its own KIND, MORE, CHANGES", x.ahead(0, 1), 13);
        for (int bad : new int[] {-1, 2, FAR[0], FAR[1]}) due("goal " + bad, x.ahead(0, bad), -7);
        for (int bad : new int[] {-1, 1, FAR[0], FAR[1]}) {
            due("hand " + bad, x.ahead(bad, 0), -5);
            due("the first one told", x.ahead(bad, 2), -5);
        }
    }

    /** Promise 17. */
    private static void changes() {
        String law = "runs notch*10; late after=1; costs off;";
        JustFivePounds x = one(law, 0, 20, 10, 0);
        due("by COST", x.change(0, 0), 20);
        due("by TENTHS, being just never", x.change(0, 1), 0);
        x.train(0, 1, 50);
        due("by COST", x.change(0, 0), 20);
        due("by TENTHS, being just now", x.change(0, 1), 20);
        due("it CHANGES as before", x.told(0, 3), 50);
        due("a HAND: all are like", one(law, 0, 0, 10, 50).change(0, 0), 0);
        due("a HAND: all are like", one(law, 0, 0, 10, 50).change(0, 1), 0);
        law = "runs 10 - (notch=3)*3; late after=1; costs off;";
        x = one(law, 2, 20, 12, 55);
        due("just at 55 CHANGE", x.stops(0, 1, 0), 500);
        due("none as likely just", x.change(0, 1), -1);
        due("by COST", x.change(0, 0), 0);
        x.train(0, 1, 59);
        due("not just at 59 CHANGE, so all count: the most, as NOTCH 1 runs more", x.change(0, 1), 500);
        // by fifties (the bound) down to CHANGE, then by ones, and one more in the late tenth
        x = one("runs 1+499*(notch=3); late after=1; costs off;", 0, 20, 0, 7);
        due("like ones, the least: 50 .. 90, 100, .. CHANGE are 1 off", x.change(0, 0), 50);
        for (int bad : new int[] {-1, 2, FAR[0], FAR[1]}) due("goal " + bad, x.change(0, bad), -7);
        for (int bad : new int[] {-1, 1, FAR[0], FAR[1]}) {
            due("hand " + bad, x.change(bad, 0), -5);
            due("the first one told", x.change(bad, 2), -5);
        }
    }

    /** Promise 18. */
    private static void whos() {
        JustFivePounds x = Due.by("runs 10; late 1; costs off;");
        for (int goal = 0; goal < 3; goal++) due("there are none", x.who(goal), -1);
        for (int bad : new int[] {-1, 3, FAR[0], FAR[1]}) due("BAD ahead of none", x.who(bad), -2);
        x.set(1, 0);
        x.hand(0, 0, 0);
        for (int goal = 0; goal < 3; goal++) due("the only one", x.who(goal), 0);
        x.hand(0, 20, 0);
        x.hand(0, 40, 0);
        x.hand(0, 20, 0);
        due("least COST, the first", x.who(0), 1);
        due("fewest TENTHS", x.who(1), 2);
        due("likeliest just: all like", x.who(2), 0);
        x.hand(30, 0, 0);
        // SURE: 500 and 510 alike
        due("least COST", x.who(0), 4);
        due("likeliest just", x.who(2), 4);
        for (int bad : new int[] {-1, 3, FAR[0], FAR[1]}) due("who(" + bad + ")", x.who(bad), -2);
        JustFivePounds y = Due.by("runs 10; late 9; costs off;");
        y.set(1, 0);
        y.hand(0, 0, 0);
        y.hand(50, 0, 0);
        due("as likely, though of 45 and not of 5", y.who(2), 0);
        due("as dear", y.who(0), 0);
        due("as long", y.who(1), 0);
    }

    /** Promise 19. */
    private static void nexts() {
        String law = "runs 12; late after=0; costs off;";
        JustFivePounds x = one(law, 1, 0, 0, 0);
        // 505, 601, 709, 805, 901, 1009, 1105, 1201, 1309, 1405
        due("601 is as near as 901", x.next(0), 600);
        x.set(0, 700);
        due("901", x.next(0), 900);
        x.set(0, 500);
        x.set(1, 0);
        due("600 is just", x.next(0), 600);
        x.set(0, 1000);
        due("1008 .. 1200", x.next(0), 1200);
        x.set(0, 2000);
        due("2004, 2100", x.next(0), 2100);
        x = one("runs 10; late after=0; costs off;", 0, 0, 0, 0);
        due("MARK itself, the least of like ones", x.next(0), 500);
        x.set(0, 495);
        due("MARK itself, though not round", x.next(0), 495);
        x.set(3, 100);
        due("FULL AT 100: the lowest mark is nearest", x.next(0), 495);
        x = one("runs 1; late after=0; costs 400-off;", 0, 0, 0, 0);
        x.set(0, 1500);
        due("2000 tenths at most: 2400 is far off, 900 more", x.next(0), 2400);
        x = one("runs 1; late after=0; costs not (off=400);", 0, 0, 0, 0);
        x.set(0, 1500);
        due("2000 tenths, from 0 on", x.next(0), 2400);
        x = one("runs 1; late after=1; costs not (off=149);", 0, 20, 0, 500);
        x.set(0, 1250);
        due("2000 tenths of two notches, and one late", x.next(0), 2150);
        x = one("runs 1; late after=0; costs 999-off;", 0, 0, 0, 0);
        x.set(3, 1);
        x.set(0, 1);
        due("the tenth, not an eleventh", x.next(0), 901);
        x = one("runs 1; late after=0; costs over;", 1, 0, 0, 0);
        x.set(3, 500);
        due("over is by that mark", x.next(0), 500);
        x.set(3, 501);
        due("over is by that mark", x.next(0), 600);
        for (int bad : new int[] {-1, 1, FAR[0], FAR[1]}) due("hand " + bad, x.next(bad), -5);
    }

    private static void on(JustFivePounds x, int end, long above, long below) {
        Due.dueBoth("on(0, " + end + ")", x.on(0, end, 0), x.on(0, end, 1), above, below);
    }

    /** Promise 20. */
    private static void ons() {
        JustFivePounds x = one("runs 10; late after=0; costs off;", 1, 0, 0, 0);
        on(x, 499, 9, 1);
        on(x, 500, 1, 1);
        on(x, 0, -499, 1);
        on(x, 99, 10 - 401, 1);
        on(x, 100, 1 - 400, 1);
        on(x, 501, 2 - 1, 1);
        on(x, 5000, 100 - 999, 1);
        on(x, 4950, 0 - 999, 1);
        x.set(3, 700);
        on(x, 900, 300 - 400, 1);
        on(x, 700, 100 - 200, 1);
        on(x, 650, 0 - 150, 1);
        x = one("runs 10; late 3-after; costs off;", 1, 0, 0, 0);
        // 501 (3), 511 (2), 521 (1): 46 by 6, less what the sum costs
        on(x, 430, 23 - 70 * 3, 3);
        on(x, 490, 23 - 10 * 3, 3);
        x = one("runs 10; late 1; costs off+more;", 1, 7, 0, 0);
        // towards 600: 601 .. 641: 21 and MORE; 500 itself costs MORE
        on(x, 500, 21, 1);
        x = one("runs 10; late after=0; costs over*(50+off);", 1, 0, 0, 0);
        on(x, 520, 51 - 70, 1);
        on(x, 480, 51, 1);
        x.set(0, 2000);
        on(x, 520, 51, 1);
        x = one("runs 10; late after=0; costs off;", 0, 20, 50, 40);
        x.set(0, 100);
        // none pressed, 41 LACKING: NOTCH 3 runs 10 too
        on(x, 159, 41 - 59, 1);
        x = one("runs 10*notch; late after=1; costs off;", 1, 20, 50, 45);
        x.set(0, 100);
        // 41 LACKING are not above 45: NOTCH 1, to 169 and a drip
        on(x, 159, 30 - 59, 1);
        for (int bad : new int[] {-1, 5001, FAR[0], FAR[1]}) due("end " + bad, x.on(0, bad, 0), NO);
        for (int bad : new int[] {-1, 2, FAR[0], FAR[1]}) due("part " + bad, x.on(0, 0, bad), NO);
        for (int bad : new int[] {-1, 1, FAR[0], FAR[1]}) due("hand " + bad, x.on(bad, 0, 0), NO);
    }

    /** Promise 21. */
    private static void boths() {
        JustFivePounds x = new JustFivePounds();
        due("both(0, 7)", x.both(0, 7), 0);
        due("both(1, 7)", x.both(1, 7), 70);
        due("both(71, 7)", x.both(71, 7), 140);
        due("both(70, 7)", x.both(70, 7), 70);
        due("both(481, 5)", x.both(481, 5), 490);
        due("both(1, 100)", x.both(1, 100), 100);
        due("both(5000, 100)", x.both(5000, 100), 5000);
        due("both(5000, 99)", x.both(5000, 99), 5940);
        x.set(2, 1);
        due("PRICE 1", x.both(4999, 1), 4999);
        due("PRICE 1", x.both(4999, 100), 5000);
        x.set(2, 6);
        due("PRICE 6: fourfold, threes", x.both(1, 1), 3);
        x.set(2, 50);
        due("PRICE 50", x.both(1, 8), 200);
        x.set(2, 99);
        due("PRICE 99", x.both(1, 10), 990);
        due("none", x.both(1, 100), -1);
        due("0 itself", x.both(0, 100), 0);
        x.set(2, 33);
        due("1000 more", x.both(2300, 100), 3300);
        due("1001 more", x.both(2299, 100), -1);
        for (int bad : new int[] {-1, 5001, FAR[0], FAR[1]}) due("end " + bad, x.both(bad, 1), -2);
        for (int bad : new int[] {-1, 0, 101, FAR[0], FAR[1]}) due("by " + bad, x.both(0, bad), -2);
    }

    public static void main(String[] args) {
        aheads();
        changes();
        whos();
        nexts();
        ons();
        boths();
        Due.end("BestTest");
    }
}
