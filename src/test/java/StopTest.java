/** Promises 11 to 15 and 22 to 24: stops, how likely, what they cost, how long they take, full, alike. */
public final class StopTest {
    private static final int[] FAR = {Integer.MIN_VALUE, Integer.MAX_VALUE};
    private static final long NO = JustFivePounds.NO;
    /** Tens to a tenth, each lateness as often as the next. */
    private static final String TENS = "runs 10; late 1; costs off;";

    private static void due(String call, long got, long want) {
        Due.due(call, got, want);
    }

    private static JustFivePounds one(String law, int kindMore, int ahead, int change) {
        JustFivePounds x = Due.by(law);
        x.hand(kindMore, ahead, change);
        return x;
    }

    private static void ends(String of, JustFivePounds x, int... want) {
        for (int a = 0; a < 5; a++) due(of + ", END of " + a, x.stops(0, a, 0), want[a]);
    }

    private static void tenths(String of, JustFivePounds x, int... want) {
        for (int a = 0; a < 5; a++) due(of + ", TENTHS of " + a, x.stops(0, a, 1), want[a]);
    }

    private static void often(String of, JustFivePounds x, int... want) {
        for (int a = 0; a < 5; a++) due(of + ", OFTEN of " + a, x.stops(0, a, 2), want[a]);
    }

    private static void notch(String of, JustFivePounds x, int want) {
        for (int a = 0; a < 5; a++) due(of + ", NOTCH", x.stops(0, a, 3), want);
    }

    /** Promise 11: notches, by what is LACKING; AHEAD, DRIPS. */
    private static void aKindPressesItsNotch() {
        String law = "runs notch*10; late 1; costs off;";
        JustFivePounds x = one(law, 0, 0, 0);
        ends("HAND", x, 501, 521, 541, 561, 581);
        tenths("HAND", x, 25, 26, 27, 28, 29);
        notch("HAND", x, 2);
        x = one(law, 10, 0, 0);
        ends("SLOW", x, 501, 511, 521, 531, 541);
        tenths("SLOW", x, 50, 51, 52, 53, 54);
        notch("SLOW", x, 1);
        x = one(law, 30, 0, 0);
        ends("SURE", x, 501, 511, 521, 531, 541);
        notch("SURE", x, 1);
        x = one(law, 50, 0, 500);
        ends("CARELESS", x, 511, 541, 571, 601, 631);
        tenths("CARELESS", x, 17, 18, 19, 20, 21);
        notch("CARELESS", x, 3);
        for (int kind = 20; kind <= 40; kind += 20) {
            x = one(law, kind, 0, 100);
            ends("LATE ONE", x, 501, 511, 521, 531, 541);
            tenths("LATE ONE", x, 22, 23, 24, 25, 26);
            notch("LATE ONE", x, 1);
            x = one(law, kind, 0, 80);
            tenths("LATE ONE at 80 lacking", x, 22, 23, 24, 25, 26);
            x = one(law, kind, 0, 79);
            tenths("LATE ONE below 80 lacking", x, 20, 21, 22, 23, 24);
            x = one(law, kind, 0, 0);
            ends("LATE ONE that never changes", x, 511, 541, 571, 601, 631);
            notch("LATE ONE that never changes", x, 3);
            x = one(law, kind, 0, 500);
            tenths("LATE ONE that is slow at once", x, 50, 51, 52, 53, 54);
            x = one(law, kind, 0, 100);
            x.set(3, 450);
            tenths("full behind its CHANGE", x, 17, 18, 19, 20, 21);
            x.set(3, 410);
            tenths("full ahead of its CHANGE", x, 14, 15, 16, 17, 18);
        }
        x = one(law, 0, 20, 0);
        ends("20 AHEAD", x, 481, 501, 521, 541, 561);
        tenths("20 AHEAD", x, 24, 25, 26, 27, 28);
        x.train(0, 0, 19);
        ends("19 AHEAD", x, 501, 521, 541, 561, 581);
        x.set(1, 9);
        ends("9 DRIPS", x, 509, 529, 549, 569, 589);
        x.set(1, 0);
        x.set(0, 501);
        ends("501", x, 500, 520, 540, 560, 580);
        x.set(0, 520);
        ends("520", x, 520, 540, 560, 580, 600);
        x = one("runs 1 + more + price*(price=3); late 1; costs off;", 8, 0, 0);
        ends("by MORE", x, 505, 514, 523, 532, 541);
        x.set(2, 3);
        ends("by PRICE", x, 505, 517, 529, 541, 553);
        x = one("runs 1 + 5*after + 5*off + 5*over; late 1; costs off;", 8, 0, 0);
        ends("after, off, over are 0 of runs", x, 501, 502, 503, 504, 505);
    }

    /** Promise 11: no NOTCH pressed yet. */
    private static void nonePressedIsByLacking() {
        JustFivePounds x = one("runs notch*10; late notch; costs off;", 20, 60, 50);
        x.set(0, 60);
        ends("60 lacking, above 50", x, 1, 31, 61, 91, 121);
        tenths("none pressed", x, 0, 1, 2, 3, 4);
        notch("60 lacking, above 50", x, 3);
        often("60 lacking, above 50", x, 0, 3, 3, 3, 3);
        x.set(0, 50);
        ends("50 lacking", x, 1, 11, 21, 31, 41);
        notch("50 lacking", x, 1);
        often("50 lacking", x, 0, 1, 1, 1, 1);
        x = one("runs notch*10; late notch; costs off;", 20, 49, 50);
        x.set(0, 100);
        notch("the one pressed last, not the one by what is LACKING", x, 3);
        x.set(0, 62);
        x.train(0, 1, 61);
        notch("pressed at 62 LACKING", x, 3);
        ends("pressed at 62 LACKING", x, 31, 61, 91, 121, 151);
    }

    /** Promise 11: how often one is so late. */
    private static void aKindIsLateSoOften() {
        String law = "runs 10; late after+1; costs off;";
        often("HAND", one(law, 9, 0, 0), 1, 2, 3, 4, 5);
        often("SLOW", one(law, 19, 0, 0), 1, 2, 3, 4, 5);
        for (int kind = 20; kind <= 40; kind += 20) {
            often("LATE ONE 3", one(law, kind + 3, 0, 0), 0, 2, 3, 4, 5);
            often("LATE ONE 4", one(law, kind + 4, 0, 0), 0, 3, 4, 5, 6);
            often("LATE ONE 7", one(law, kind + 7, 0, 0), 0, 3, 4, 5, 6);
            often("LATE ONE 8", one(law, kind + 8, 0, 0), 0, 4, 5, 6, 7);
        }
        often("SURE", one(law, 39, 0, 0), 2, 3, 0, 0, 0);
        often("CARELESS 0", one(law, 50, 0, 0), 1, 1, 1, 1, 1);
        often("CARELESS 4", one(law, 54, 0, 0), 1, 2, 3, 5, 6);
        often("CARELESS 9", one(law, 59, 0, 0), 1, 4, 7, 10, 13);
        law = "runs 10; late notch*2 + more + (price<9); costs off;";
        JustFivePounds x = one(law, 1, 0, 0);
        often("by NOTCH, MORE", x, 5, 5, 5, 5, 5);
        x.set(2, 8);
        often("by PRICE", x, 6, 6, 6, 6, 6);
        often("of NOTCH 1", one(law, 11, 0, 0), 3, 3, 3, 3, 3);
        often("of NOTCH 3", one(law, 21, 0, 0), 0, 7, 7, 7, 7);
        often("off, over are 0 of late", one("runs 1; late 1+off+over; costs 0;", 0, 0, 0), 1, 1, 1, 1, 1);
        law = "runs 10; late 0; costs off;";
        often("none: a 0 is", one(law, 9, 0, 0), 1, 0, 0, 0, 0);
        often("none: a 0 is", one(law, 23, 0, 0), 1, 0, 0, 0, 0);
        often("not none", one(law, 24, 0, 0), 0, 1, 1, 1, 1);
        often("not none", one(law, 30, 0, 0), 1, 1, 0, 0, 0);
        often("one alone, once", one("runs 10; late after=1; costs off;", 0, 0, 0), 0, 1, 0, 0, 0);
        law = "runs 10; late (after=0)*3; costs off;";
        often("a 0 alone", one(law, 0, 0, 0), 3, 0, 0, 0, 0);
        often("a 0 that is never: 1", one(law, 20, 0, 0), 1, 0, 0, 0, 0);
    }

    /** Promise 11: FULL AT. */
    private static void fullIsFull() {
        JustFivePounds x = one(TENS, 0, 0, 0);
        x.set(3, 495);
        ends("FULL AT 495", x, 495, 495, 495, 495, 495);
        tenths("FULL AT 495", x, 50, 51, 52, 53, 54);
        x.set(3, 490);
        tenths("FULL AT 490", x, 49, 50, 51, 52, 53);
        x.set(3, 513);
        ends("FULL AT 513", x, 501, 511, 513, 513, 513);
        x.set(1, 9);
        ends("9 DRIPS", x, 509, 513, 513, 513, 513);
        x.set(3, 1);
        ends("FULL AT 1", x, 1, 1, 1, 1, 1);
        tenths("FULL AT 1", x, 1, 2, 3, 4, 5);
        x.train(0, 0, 99);
        x.set(0, 50);
        ends("by DRIPS", x, 1, 1, 1, 1, 1);
        tenths("by DRIPS", x, 0, 1, 2, 3, 4);
    }

    /** Promise 11: touches. */
    private static void aTouchingOneTouchesAgain() {
        JustFivePounds x = one(TENS, 46, 30, 0);
        ends("MORE 6", x, 500, 500, 500, 501, 511);
        tenths("MORE 6", x, 47 + 5 * 13, 48 + 5 * 11, 49 + 5 * 9, 50, 51);
        x.set(1, 0);
        tenths("10 lacking gives 1", x, 47 + 5 * 14, 48 + 5 * 12, 49 + 5 * 10, 50, 51);
        x.set(1, 9);
        ends("11 lacking gives 5", x, 500, 500, 500, 509, 519);
        tenths("11 lacking gives 5", x, 47 + 5 * 9, 48 + 5 * 7, 49 + 5 * 1, 50, 51);
        x.set(1, 1);
        x.set(3, 475);
        ends("FULL AT 475", x, 475, 475, 475, 475, 475);
        tenths("FULL AT 475", x, 47 + 5 * 1, 48, 49, 50, 51);
        x = one("runs 1; late 1; costs off;", 40, 99, 0);
        x.set(1, 0);
        ends("30 touches", x, 491, 492, 491, 492, 493);
        tenths("30 touches", x, 401 + 150, 402 + 150, 403 + 150, 404 + 150, 405 + 150);
        x = one(TENS, 42, 20, 0);
        tenths("MORE 2 gives 3", x, 48 + 5 * (3 + 10), 49 + 5 * 9, 50, 51, 52);
        x = one(TENS, 49, 20, 0);
        tenths("MORE 9 gives 6", x, 48 + 5 * (2 + 7), 49 + 5 * 9, 50, 51, 52);
        for (int kind : new int[] {6, 16, 26, 36, 56}) {
            x = one(TENS, kind, 30, 0);
            ends("none touches", x, 471, 481, 491, 501, 511);
            tenths("none touches", x, 47, 48, 49, 50, 51);
        }
    }

    /** Promise 11: so many tenths, and the refusals. */
    private static void stopsRefuses() {
        JustFivePounds x = one("runs 1; late 1; costs off;", 0, 0, 0);
        x.set(0, 2000);
        tenths("2000", x, 2000, 2001, 2002, 2003, 2004);
        for (int bad : new int[] {-1, 5, FAR[0], FAR[1]}) due("after " + bad, x.stops(0, bad, 0), -7);
        for (int bad : new int[] {-1, 4, FAR[0], FAR[1]}) due("what " + bad, x.stops(0, 0, bad), -7);
        for (int bad : new int[] {-1, 1, 5, FAR[0], FAR[1]}) {
            due("hand " + bad, x.stops(bad, 0, 0), -5);
            due("the first one told", x.stops(bad, 5, 4), -5);
        }
    }

    private static void chance(JustFivePounds x, int sort, long above, long below) {
        Due.dueBoth("chance(0, " + sort + ")", x.chance(0, sort, 0), x.chance(0, sort, 1), above, below);
    }

    /** Promise 12. */
    private static void chances() {
        JustFivePounds x = one(TENS, 0, 30, 0);
        x.set(1, 0);
        chance(x, 0, 1, 5);
        chance(x, 1, 1, 5);
        chance(x, 2, 3, 5);
        x.train(0, 0, 0);
        chance(x, 0, 1, 5);
        chance(x, 1, 4, 5);
        x.set(1, 1);
        chance(x, 0, 0, 1);
        chance(x, 1, 1, 1);
        chance(x, 2, 0, 1);
        x = one("runs 10; late 2+2*(after=2); costs off;", 0, 20, 0);
        x.set(1, 0);
        chance(x, 0, 1, 3);
        chance(x, 1, 1, 3);
        chance(x, 2, 1, 3);
        x.set(1, 1);
        chance(x, 0, 0, 1);
        chance(x, 1, 2, 3);
        chance(x, 2, 1, 3);
        x.set(3, 500);
        chance(x, 0, 2, 3);
        chance(x, 1, 0, 1);
        x = one("runs 10; late 0; costs off;", 0, 0, 0);
        x.set(1, 0);
        chance(x, 0, 1, 1);
        for (int bad : new int[] {-1, 3, FAR[0], FAR[1]}) due("sort " + bad, x.chance(0, bad, 0), NO);
        for (int bad : new int[] {-1, 2, FAR[0], FAR[1]}) due("part " + bad, x.chance(0, 0, bad), NO);
        for (int bad : new int[] {-1, 1, FAR[0], FAR[1]}) due("hand " + bad, x.chance(bad, 0, 0), NO);
    }

    private static void mean(String of, JustFivePounds x, long above, long below) {
        Due.dueBoth(of + ", mean", x.mean(0, 0), x.mean(0, 1), above, below);
    }

    /** Promise 13. */
    private static void means() {
        JustFivePounds x = one(TENS, 0, 20, 0);
        x.set(1, 0);
        mean("off", x, 12, 1);
        x = one("runs 10; late 4-after; costs off + 3*over;", 0, 20, 0);
        x.set(1, 0);
        // 4 * 20, 3 * 10, 2 * 0, 1 * 13, 0 * 23
        mean("off and over", x, 123, 10);
        x = one("runs 10; late 1; costs more + price + 500*notch + 500*after;", 7, 20, 0);
        mean("MORE, PRICE; notch, after are 0 of costs", x, 47, 1);
        x = one("runs 10; late 1; costs off - 900;", 0, 20, 0);
        x.set(0, 2000);
        x.set(3, 500);
        mean("off is 999 at most", x, 99, 1);
        x = one("runs 10; late 1; costs over*9;", 0, 20, 0);
        x.set(1, 0);
        mean("the mark itself is not over", x, 18, 5);
        x = one("runs 10; late 1; costs 0;", 0, 20, 0);
        mean("nothing", x, 0, 1);
        for (int bad : new int[] {-1, 2, FAR[0], FAR[1]}) due("part " + bad, x.mean(0, bad), NO);
        for (int bad : new int[] {-1, 1, FAR[0], FAR[1]}) due("hand " + bad, x.mean(bad, 0), NO);
    }

    private static void time(String of, JustFivePounds x, long above, long below) {
        Due.dueBoth(of + ", time", x.time(0, 0), x.time(0, 1), above, below);
    }

    /** Promise 14. */
    private static void times() {
        JustFivePounds x = one(TENS, 0, 0, 0);
        time("50 .. 54", x, 52, 1);
        x = one("runs 10; late 4-after; costs off;", 0, 0, 0);
        time("4 * 50, 3 * 51, 2 * 52, 53", x, 51, 1);
        x = one("runs 10; late 1 + 2*(after=4); costs off;", 0, 0, 0);
        time("50, 51, 52, 53, 3 * 54", x, 368, 7);
        x = one(TENS, 46, 30, 0);
        time("touches, a 0 never: 103, 94, 50, 51", x, 149, 2);
        x = one(TENS, 0, 99, 0);
        x.set(0, 9);
        time("0 .. 4", x, 2, 1);
        x = one("runs 10; late 0; costs off;", 0, 99, 0);
        x.set(0, 9);
        time("none at all", x, 0, 1);
        for (int bad : new int[] {-1, 2, FAR[0], FAR[1]}) due("part " + bad, x.time(0, bad), NO);
        for (int bad : new int[] {-1, 1, FAR[0], FAR[1]}) due("hand " + bad, x.time(bad, 0), NO);
    }

    private static void at(JustFivePounds x, int end, long above, long below) {
        Due.dueBoth("at " + end, x.at(0, end, 0), x.at(0, end, 1), above, below);
    }

    /** Promise 15. */
    private static void ats() {
        JustFivePounds x = one("runs 10; late 4-after; costs off;", 0, 0, 0);
        at(x, 501, 2, 5);
        at(x, 511, 3, 10);
        at(x, 521, 1, 5);
        at(x, 531, 1, 10);
        at(x, 541, 0, 1);
        at(x, 500, 0, 1);
        at(x, 0, 0, 1);
        at(x, 5000, 0, 1);
        x.set(3, 515);
        at(x, 515, 3, 10);
        at(x, 521, 0, 1);
        x.set(0, 1);
        x.set(1, 0);
        x.train(0, 0, 1);
        at(x, 0, 2, 5);
        for (int bad : new int[] {-1, 5001, FAR[0], FAR[1]}) due("end " + bad, x.at(0, bad, 0), NO);
        for (int bad : new int[] {-1, 2, FAR[0], FAR[1]}) due("part " + bad, x.at(0, 0, bad), NO);
        for (int bad : new int[] {-1, 1, FAR[0], FAR[1]}) due("hand " + bad, x.at(bad, 0, 0), NO);
    }

    private static void full(JustFivePounds x, int sort, long above, long below) {
        Due.dueBoth("full(0, " + sort + ")", x.full(0, sort, 0), x.full(0, sort, 1), above, below);
    }

    /** Promise 22. */
    private static void fulls() {
        JustFivePounds x = one("runs 10; late 4-after; costs off;", 0, 0, 0);
        full(x, 0, 0, 1);
        full(x, 1, 0, 1);
        x.set(3, 499);
        full(x, 0, 1, 1);
        full(x, 1, 0, 1);
        x.set(3, 500);
        full(x, 0, 0, 1);
        full(x, 1, 1, 1);
        x.set(3, 515);
        full(x, 0, 0, 1);
        full(x, 1, 3, 10);
        x.set(3, 495);
        x.train(0, 0, 30);
        full(x, 0, 1, 10);
        full(x, 1, 0, 1);
        for (int bad : new int[] {-1, 2, FAR[0], FAR[1]}) {
            due("sort " + bad, x.full(0, bad, 0), NO);
            due("part " + bad, x.full(0, 0, bad), NO);
            due("part " + bad, x.full(0, 1, bad), NO);
        }
        for (int bad : new int[] {-1, 1, FAR[0], FAR[1]}) due("hand " + bad, x.full(bad, 0, 0), NO);
    }

    /** Promise 23. */
    private static void spreads() {
        due("all five", one(TENS, 0, 0, 0).spread(0), 40);
        due("a 0 never", one(TENS, 20, 0, 0).spread(0), 30);
        due("a 3, 4 never", one("runs 10; late 3-after; costs off;", 0, 0, 0).spread(0), 20);
        due("a 0 alone", one("runs 10; late 0; costs off;", 20, 0, 0).spread(0), 0);
        due("a 1, 3 alone", one("runs 10; late after=1 or after=3; costs off;", 0, 0, 0).spread(0), 20);
        due("touching, the later one less", one("runs 1; late after<3; costs off;", 40, 99, 0).spread(0), 1);
        JustFivePounds x = one(TENS, 0, 0, 0);
        x.set(3, 515);
        due("FULL AT 515", x.spread(0), 14);
        x = one("runs 10; late after=0; costs off;", 0, 1, 0);
        x.set(0, 1);
        x.set(1, 0);
        due("END 0 alone", x.stops(0, 0, 0), 0);
        due("END 0 alone", x.spread(0), 0);
        for (int bad : new int[] {-1, 1, FAR[0], FAR[1]}) due("hand " + bad, x.spread(bad), -5);
    }

    private static void alike(JustFivePounds x, int n, long above, long below) {
        Due.dueBoth("alike(0, " + n + ")", x.alike(0, n, 0), x.alike(0, n, 1), above, below);
    }

    /** Promise 24. */
    private static void alikes() {
        JustFivePounds x = one("runs 10; late after<2; costs off;", 0, 0, 0);
        alike(x, 1, 1, 1);
        alike(x, 2, 1, 2);
        alike(x, 3, 1, 4);
        alike(x, 4, 1, 8);
        x = one("runs 10; late 4-after; costs off;", 0, 0, 0);
        alike(x, 1, 1, 1);
        alike(x, 2, 3, 10);
        alike(x, 3, 1, 10);
        alike(x, 4, 177, 5000);
        x.set(3, 512);
        // 501: 4, 511: 3, 512: 3
        alike(x, 2, 17, 50);
        x.set(3, 500);
        alike(x, 4, 1, 1);
        for (int bad : new int[] {-1, 0, 5, FAR[0], FAR[1]}) due("n " + bad, x.alike(0, bad, 0), NO);
        for (int bad : new int[] {-1, 2, FAR[0], FAR[1]}) due("part " + bad, x.alike(0, 1, bad), NO);
        for (int bad : new int[] {-1, 1, FAR[0], FAR[1]}) due("hand " + bad, x.alike(bad, 1, 0), NO);
    }

    public static void main(String[] args) {
        aKindPressesItsNotch();
        nonePressedIsByLacking();
        aKindIsLateSoOften();
        fullIsFull();
        aTouchingOneTouchesAgain();
        stopsRefuses();
        chances();
        means();
        times();
        ats();
        fulls();
        spreads();
        alikes();
        Due.end("StopTest");
    }
}
