/** Promises 25 to 31: told slips. */
public final class SlipTest {
    private static final int[] FAR = {Integer.MIN_VALUE, Integer.MAX_VALUE};
    private static final long NO = JustFivePounds.NO;
    /** Ends 501, 511, 521, 531 with 4, 3, 2, 1 by 10; 541 never. */
    private static final String FALLING = "runs 10; late 4-after; costs off;";

    private static void due(String call, long got, long want) {
        Due.due(call, got, want);
    }

    private static JustFivePounds one(String law, int kindMore, int ahead, int change) {
        JustFivePounds x = Due.by(law);
        x.hand(kindMore, ahead, change);
        return x;
    }

    private static void judged(JustFivePounds x, int want, int... ends) {
        Due.row(x, 0, 2, ends);
        due("judge", x.judge(0, 0), want);
    }

    /** Promise 25. */
    private static void judges() {
        JustFivePounds x = one(FALLING, 0, 0, 0);
        judged(x, -1);
        judged(x, -1, 501);
        judged(x, -1, 501, 511, 521, 531, 501);
        judged(x, 0, 500);
        judged(x, 0, 541);
        judged(x, 2, 501, 531, 541, 400);
        judged(x, 1, 501, -501);
        judged(x, 1, 501, 501 + 65536, 501);
        int[] forty = new int[40];
        java.util.Arrays.fill(forty, 501);
        judged(x, -1, forty);
        forty[39] = 0;
        judged(x, 39, forty);
        Due.row(x, 1, 1, 501, 511, 512);
        due("of shorts", x.judge(1, 0), 2);
        x.set(0, 50);
        Due.row(x, 2, 0, 51, 61, 62);
        due("of bytes", x.judge(2, 0), 2);
        due("missing", x.judge(3, 0), -11);
        for (int bad : new int[] {-1, 4, FAR[0], FAR[1]}) due("sheet " + bad, x.judge(bad, 9), -2);
        for (int bad : new int[] {-1, 1, FAR[0], FAR[1]}) {
            due("hand " + bad, x.judge(2, bad), -5);
            due("missing ahead of hand " + bad, x.judge(3, bad), -11);
        }
    }

    private static void parted(JustFivePounds x, long want, int... ends) {
        Due.row(x, 0, 2, ends);
        due("parts", x.parts(0, 0), want);
    }

    /** Promise 26. */
    private static void parts() {
        JustFivePounds x = one(FALLING, 0, 0, 0);
        parted(x, 1000000000);
        parted(x, 400000000, 501);
        parted(x, 120000000, 501, 511);
        parted(x, 2400000, 501, 511, 521, 531);
        parted(x, 160000000, 501, 501);
        parted(x, 0, 541);
        parted(x, 0, 501, 541, 501);
        parted(x, 0, 500);
        x.set(3, 505);
        parted(x, 600000000, 505);
        parted(x, 240000000, 505, 501);
        x = one("runs 10; late (after=0)*2+(after=1); costs off;", 0, 0, 0);
        // 666666666, 444444444, 296296296, 197530864, 131687242, 87791494: cut each time
        parted(x, 666666666, 501);
        parted(x, 87791494, 501, 501, 501, 501, 501, 501);
        parted(x, 222222222, 501, 511);
        parted(x, 222222222, 511, 501);
        x = one("runs 10; late 0; costs off;", 0, 0, 0);
        parted(x, 1000000000, 501, 501, 501);
        parted(x, 0, 501, 500, 501);
        due("missing", x.parts(3, 0), NO);
        for (int bad : new int[] {-1, 4, FAR[0], FAR[1]}) due("sheet " + bad, x.parts(bad, 0), NO);
        for (int bad : new int[] {-1, 1, FAR[0], FAR[1]}) due("hand " + bad, x.parts(0, bad), NO);
    }

    private static void fitted(JustFivePounds x, int sort, long which, long most, int... ends) {
        Due.row(x, 0, 2, ends);
        due("fits(0, 0, " + 10 * sort + ")", x.fits(0, 0, 10 * sort), which);
        due("fits(0, 0, " + (10 * sort + 1) + ")", x.fits(0, 0, 10 * sort + 1), most);
    }

    /** Promise 27. */
    private static void fits() {
        JustFivePounds x = one("runs notch*10; late 1; costs off;", 40, 0, 0);
        fitted(x, 0, 0, 1000000000);
        fitted(x, 0, 0, 0, 400);
        // HAND, SLOW 1 by 5; SURE 1 by 2; the others never
        fitted(x, 0, 3, 500000000, 501);
        // SURE never, SLOW 1 by 5 each
        fitted(x, 0, 1, 40000000, 511, 541);
        // HAND, SLOW, CARELESS 1 by 5; LATE ONE, TOUCHING 1 by 4
        fitted(x, 0, 2, 250000000, 541);
        // CARELESS alone, 1 by 5 each
        fitted(x, 0, 5, 40000000, 511, 601);
        due("its KIND is as before", x.told(0, 0), 4);
        x = one("runs 10; late 1; costs off;", 0, 30, 0);
        fitted(x, 0, 4, 500000000, 500);
        x = one("runs 10; late 1; costs off;", 59, 0, 0);
        // 3 by 10, 6 by 20, 9 by 30 of MORE 2, 5, 8
        fitted(x, 1, 2, 300000000, 531);
        fitted(x, 1, 9, 371428571, 541);
        fitted(x, 1, 0, 200000000, 501);
        due("its MORE is as before", x.told(0, 1), 9);
        x = one(FALLING, 0, 50, 0);
        fitted(x, 2, 10, 400000000, 491);
        due("it LETS go as before", x.told(0, 2), 50);
        x = one("runs 1; late 4-after; costs off;", 0, 50, 0);
        fitted(x, 2, 99, 400000000, 402);
        fitted(x, 2, 0, 400000000, 501);
        fitted(x, 2, 98, 120000000, 403, 404);
        for (int bad : new int[] {-1, -10, -11, 2, 9, 12, 19, 22, 30, 31, FAR[0], FAR[1]}) {
            due("sortWhat " + bad, x.fits(0, 0, bad), NO);
        }
        due("missing", x.fits(3, 0, 0), NO);
        for (int bad : new int[] {-1, 4, FAR[0], FAR[1]}) due("sheet " + bad, x.fits(bad, 0, 0), NO);
        for (int bad : new int[] {-1, 1, FAR[0], FAR[1]}) due("hand " + bad, x.fits(0, bad, 0), NO);
    }

    private static void slipOf(JustFivePounds x, long which, long most, int... ends) {
        Due.row(x, 0, 2, ends);
        due("whose(0, 0)", x.whose(0, 0), which);
        due("whose(0, 1)", x.whose(0, 1), most);
    }

    /** Promise 28. */
    private static void whoses() {
        JustFivePounds x = Due.by("runs 10; late 1; costs off;");
        slipOf(x, -1, -1);
        slipOf(x, -1, -1, 501);
        due("NO ahead of none", x.whose(0, 2), NO);
        due("NO ahead of none", x.whose(1, 0), NO);
        due("NO ahead of none", x.whose(4, 0), NO);
        x.hand(0, 0, 0);
        x.hand(0, 20, 0);
        x.hand(0, 20, 0);
        x.hand(30, 0, 0);
        slipOf(x, 0, 1000000000);
        slipOf(x, 1, 200000000, 481);
        slipOf(x, 3, 500000000, 501);
        slipOf(x, 0, 200000000, 521);
        slipOf(x, 0, 0, 999);
        for (int bad : new int[] {-1, 2, FAR[0], FAR[1]}) due("what " + bad, x.whose(0, bad), NO);
        for (int bad : new int[] {-1, 4, FAR[0], FAR[1]}) due("sheet " + bad, x.whose(bad, 0), NO);
        due("missing", x.whose(1, 0), NO);
    }

    /** Ends by text 0: 505, 517, 529 with 3, 2, 1 by 6; by 1, 3: falling; by 2: 511 .. 541 with 1, 2, 3, 4 by 10. */
    private static JustFivePounds four() {
        JustFivePounds x = new JustFivePounds();
        x.hand(0, 0, 0);
        for (String law : new String[] {FALLING, "runs 10; late after; costs off;", FALLING}) {
            Due.feed(x, law);
            x.text();
        }
        return x;
    }

    private static void ruled(JustFivePounds x, long which, long most, int bits, int... ends) {
        Due.row(x, 0, 2, ends);
        for (int t = 0; t < 4; t++) {
            x.force(t);
            due("rule(0, 0, 0)", x.rule(0, 0, 0), which);
            due("rule(0, 0, 1)", x.rule(0, 0, 1), most);
            due("laws(0, 0)", x.laws(0, 0), bits);
            due("THE LAW stays", x.count(6), t);
        }
    }

    /** Promises 29 and 30. */
    private static void rulesAndLaws() {
        JustFivePounds x = four();
        ruled(x, 0, 1000000000, 15);
        ruled(x, 1, 400000000, 2 + 8, 501);
        ruled(x, 2, 400000000, 4, 541);
        ruled(x, 0, 500000000, 1, 505);
        ruled(x, 1, 300000000, 2 + 4 + 8, 511);
        ruled(x, 2, 120000000, 4, 531, 541);
        ruled(x, 0, 0, 0, 7);
        ruled(x, 0, 0, 0, 505, 501);
        due("rule, missing", x.rule(3, 0, 0), NO);
        due("laws, missing", x.laws(3, 0), -11);
        for (int bad : new int[] {-1, 2, FAR[0], FAR[1]}) due("rule, what " + bad, x.rule(0, 0, bad), NO);
        for (int bad : new int[] {-1, 4, FAR[0], FAR[1]}) {
            due("rule, sheet " + bad, x.rule(bad, 0, 0), NO);
            due("laws, sheet " + bad, x.laws(bad, 9), -2);
        }
        for (int bad : new int[] {-1, 1, FAR[0], FAR[1]}) {
            due("rule, hand " + bad, x.rule(0, bad, 0), NO);
            due("laws, hand " + bad, x.laws(0, bad), -5);
            due("laws, missing ahead of hand " + bad, x.laws(3, bad), -11);
        }
        JustFivePounds y = new JustFivePounds();
        y.hand(0, 0, 0);
        y.sheet(0, 0, 0);
        due("one text", y.laws(0, 0), 1);
        for (int t = 1; t < 6; t++) {
            Due.feed(y, FALLING);
            y.text();
        }
        due("six texts", y.laws(0, 0), 63);
        Due.row(y, 0, 2, 501);
        due("all but the first", y.laws(0, 0), 62);
    }

    /** Promise 31. */
    private static void films() {
        JustFivePounds x = one(FALLING, 0, 0, 0);
        x.sheet(2, 0, 40);
        for (int s = 0; s < 4; s++) {
            due("film", x.film(s, 0), 4);
            due("its last place", x.copy(s, 3, s, 3, 1), 1);
            due("none behind", x.cell(s, 4, 1), -12);
            due("of ints", x.handsBy(s, 2, 0, 0), 0);
            due("of no shorts", x.handsBy(s, 1, 0, 0), -13);
            due("all likely", x.parts(s, 0), 2400000);
        }
        x.sheet(1, 2, 1);
        for (int a = 0; a < 4; a++) {
            x.copy(0, a, 1, 0, 1);
            due("by a", x.parts(1, 0), (4 - a) * 100000000L);
        }
        JustFivePounds y = one("runs 10; late 9*(after=3); costs off;", 20, 0, 0);
        due("one alone", y.film(0, 0), 1);
        due("it", y.parts(0, 0), 1000000000);
        y = one("runs 10; late 0; costs off;", 20, 0, 0);
        due("none: a 0", y.film(0, 0), 1);
        due("all five", one("runs 10; late 1; costs off;", 0, 0, 0).film(0, 0), 5);
        y = one("runs 10; late 1; costs off;", 0, 0, 0);
        y.set(3, 500);
        due("alike ones too", y.film(0, 0), 5);
        due("alike ones too", y.parts(0, 0), 1000000000);
        for (int bad : new int[] {-1, 4, FAR[0], FAR[1]}) due("sheet " + bad, x.film(bad, 9), -2);
        for (int bad : new int[] {-1, 1, FAR[0], FAR[1]}) {
            due("hand " + bad, x.film(0, bad), -5);
            due("what stands, stays", x.parts(0, 0), 2400000);
        }
    }

    public static void main(String[] args) {
        judges();
        parts();
        fits();
        whoses();
        rulesAndLaws();
        films();
        Due.end("SlipTest");
    }
}
