/** The edges that promises 11 to 24 name, sentence by sentence: stops, how likely, what is best, round, full, alike. */
public final class EdgeStopTest {
    private static final long NO = JustFivePounds.NO;
    /** Each lateness as often as the next. */
    private static final String TENS = "runs 10;late 1;costs off;", ONES = "runs 1;late 1;costs off;";
    /** Never late. */
    private static final String SURE_TENS = "runs 10;late after=0;costs off;", SURE_ONES = "runs 1;late after=0;costs off;";

    private static void due(String call, long got, long want) {
        Edge.due(call, got, want);
    }

    /** A pump that doesn't drip, and one HAND. */
    private static JustFivePounds one(String law, int mark, int kindMore, int ahead, int change) {
        JustFivePounds x = Due.by(law);
        x.set(0, mark);
        x.set(1, 0);
        x.hand(kindMore, ahead, change);
        return x;
    }

    private static void each(String of, JustFivePounds x, int what, int... want) {
        for (int a = 0; a < want.length; a++) due(of + ", stops(0, " + a + ", " + what + ")", x.stops(0, a, what), want[a]);
    }

    private static void ends(String of, JustFivePounds x, int... want) {
        each(of, x, 0, want);
    }

    private static void tenths(String of, JustFivePounds x, int... want) {
        each(of, x, 1, want);
    }

    private static void often(String of, JustFivePounds x, int... want) {
        each(of, x, 2, want);
    }

    // ---- promise 11: kinds

    private static void aLateOneChanges() {
        Edge.of(11, "KINDS", "NOTCH 3, if LACKING is above CHANGES, else 1");
        for (int kind = 20; kind <= 40; kind += 20) {
            for (int change = 28; change <= 32; change++) {
                JustFivePounds x = one("runs notch*10;late 1;costs off;", 30, kind, 0, change);
                tenths("30 LACKING, CHANGES " + change, x, change < 30 ? 1 : 3);
                due("pressed last, CHANGES " + change, x.stops(0, 0, 3), change < 30 ? 3 : 1);
                x = one(ONES, 30, kind, 99, change);
                due("none pressed, CHANGES " + change, x.stops(0, 0, 3), change < 30 ? 3 : 1);
            }
            due("1 LACKING, CHANGES 0", one(ONES, 1, kind, 99, 0).stops(0, 0, 3), 3);
            due("500 LACKING, CHANGES 500", one(ONES, 500, kind, 99, 500).stops(0, 0, 3), 1);
        }
        int[] notches = {2, 1, 0, 1, 0, 3};
        for (int kind : new int[] {0, 1, 3, 5}) {
            for (int change : new int[] {0, 500}) {
                due("KIND " + kind + ", CHANGES " + change, one(ONES, 50, 10 * kind, 0, change).stops(0, 0, 3), notches[kind]);
            }
        }
    }

    private static void kindsAreLateSoOften() {
        Edge.of(11, "KINDS", "how often one is so many tenths LATE (0 .. 4), the text saying so often");
        for (int kind = 0; kind <= 1; kind++) {
            often("KIND " + kind, one("runs 1;late 2*after;costs 0;", 9, 10 * kind + 9, 0, 0), 0, 2, 4, 6, 8);
            often("KIND " + kind, one("runs 1;late 3*after;costs 0;", 9, 10 * kind + 9, 0, 0), 0, 3, 6, 9, 9);
        }
        Edge.of(11, "KINDS", "0 tenths LATE never (0), else MORE by 4 (cut) more often");
        for (int kind = 2; kind <= 4; kind += 2) {
            for (int more = 0; more <= 9; more++) {
                int by = more < 4 ? 0 : more < 8 ? 1 : 2;
                JustFivePounds x = one("runs 1;late 9-after;costs 0;", 9, 10 * kind + more, 0, 0);
                often("KIND " + kind + ", MORE " + more, x, 0, 8 + by, 7 + by, 6 + by, 5 + by);
            }
        }
        Edge.of(11, "KINDS", "above 1 tenth LATE never (0), else 1 more often");
        for (int more : new int[] {0, 9}) {
            often("SURE, 9", one("runs 1;late 9;costs 0;", 9, 30 + more, 0, 0), 10, 10, 0, 0, 0);
            often("SURE, 0", one("runs 1;late 0;costs 0;", 9, 30 + more, 0, 0), 1, 1, 0, 0, 0);
            often("a SLOW, 9", one("runs 1;late 9;costs 0;", 9, 10 + more, 0, 0), 9, 9, 9, 9, 9);
        }
        Edge.of(11, "KINDS", "LATE so often: 1, and (tenths LATE times MORE) by 3 (cut)");
        int[][] by = {{1, 1, 1, 1, 1}, {1, 1, 1, 2, 2}, {1, 1, 2, 3, 3}, {1, 2, 3, 4, 5}, {1, 2, 3, 5, 6}, {1, 2, 4, 6, 7},
            {1, 3, 5, 7, 9}, {1, 3, 5, 8, 10}, {1, 3, 6, 9, 11}, {1, 4, 7, 10, 13}};
        for (int more = 0; more <= 9; more++) {
            often("CARELESS, MORE " + more, one("runs 1;late 0;costs 0;", 9, 50 + more, 0, 0), by[more]);
            often("CARELESS, MORE " + more + ", whatever the text", one("runs 1;late 9;costs 0;", 9, 50 + more, 0, 0), by[more]);
        }
        Edge.of(11, "KINDS", "how often 0 at least, in the end");
        often("said below 0", one("runs 1;late after-2;costs 0;", 9, 0, 0, 0), 0, 0, 0, 1, 2);
        often("the bound stands ahead of MORE", one("runs 1;late after-2;costs 0;", 9, 24, 0, 0), 0, 1, 1, 2, 3);
        often("the bound stands ahead of MORE", one("runs 1;late 11-after;costs 0;", 9, 48, 0, 0), 0, 11, 11, 10, 9);
        often("the bound stands ahead of 1 more", one("runs 1;late 0-5;costs 0;", 9, 30, 0, 0), 1, 1, 0, 0, 0);
    }

    private static void aTouchGivesSoMuch() {
        Edge.of(11, "KINDS", "a TOUCH gives 3 and MORE by 3 (cut), if LACKING is above 10, else 1");
        int[] touchesOf11 = {9, 9, 9, 8, 8, 8, 7, 7, 7, 6};
        for (int more = 0; more <= 9; more++) {
            tenths("10 LACKING, MORE " + more, one(ONES, 10, 40 + more, 99, 0), 50);
            tenths("11 LACKING, MORE " + more, one(ONES, 11, 40 + more, 99, 0), 5 * touchesOf11[more]);
            ends("11 LACKING, MORE " + more, one(ONES, 11, 40 + more, 99, 0), 11);
        }
        Edge.of(11, "KINDS", "how much a TOUCH gives (0: none is made)");
        for (int kind : new int[] {0, 1, 2, 3, 5}) {
            JustFivePounds x = one(ONES, 50, 10 * kind + 9, 60, 0);
            ends("KIND " + kind, x, 0, 1, 2, 3, 4);
            tenths("KIND " + kind, x, 0, 1, 2, 3, 4);
        }
    }

    // ---- promise 11: a stop

    private static void itPressesSoLong() {
        Edge.of(11, "A STOP", "(the mark less SUM) is above what it LETS go AHEAD");
        tenths("20 LACKING, 20 AHEAD", one(TENS, 20, 0, 20, 0), 0);
        tenths("20 LACKING, 19 AHEAD", one(TENS, 20, 0, 19, 0), 1);
        tenths("10 LACKING, 10 AHEAD", one(TENS, 20, 0, 10, 0), 1);
        tenths("10 LACKING, 9 AHEAD", one(TENS, 20, 0, 9, 0), 2);
        tenths("0 LACKING, 0 AHEAD", one(TENS, 20, 0, 0, 0), 2);
        tenths("1 LACKING, 0 AHEAD", one(TENS, 21, 0, 0, 0), 3);
        ends("1 LACKING, 0 AHEAD", one(TENS, 21, 0, 0, 0), 30);
        tenths("99 LACKING, 99 AHEAD", one(TENS, 99, 0, 99, 0), 0);
        tenths("100 LACKING, 99 AHEAD", one(TENS, 100, 0, 99, 0), 1);
        Edge.of(11, "A STOP", "SUM is below FULL AT, and tenths are below 2000");
        for (int full = 19; full <= 31; full++) {
            JustFivePounds x = one(TENS, 500, 0, 0, 0);
            x.set(3, full);
            tenths("FULL AT " + full, x, full <= 20 ? 2 : full <= 30 ? 3 : 4);
            ends("FULL AT " + full, x, full);
        }
        tenths("2000 tenths", one(ONES, 2000, 0, 0, 0), 2000, 2001, 2002, 2003, 2004);
        tenths("1999 tenths", one(ONES, 2000, 0, 1, 0), 1999);
        JustFivePounds late = one("runs 10*notch;late 1;costs off;", 500, 20, 0, 100);
        // 420 by 14 thirties, then tens
        int[] fulls = {390, 391, 420, 421, 430, 431}, presses = {13, 14, 14, 15, 15, 16};
        for (int i = 0; i < fulls.length; i++) {
            late.set(3, fulls[i]);
            tenths("FULL AT " + fulls[i] + " of two NOTCHES", late, presses[i]);
        }
        // towards 2150 by NOTCH 3 till 500 are LACKING, then by NOTCH 1 to 2000, for the tenths
        due("2000 tenths of two NOTCHES", one("runs 1;late after=0;costs not off=150;", 1250, 20, 0, 500).next(0), 2150);
        // towards 2400 it lets go at 2000, for the tenths: that mark alone is 400 off
        due("2000 tenths towards 2400", one("runs 1;late after=0;costs not off=400;", 1500, 0, 0, 0).next(0), 2400);
        due("2000 tenths, and one late", one("runs 1;late after=1;costs not off=399;", 1500, 0, 0, 0).next(0), 2400);
    }

    private static void sumIsFullAtAtMost() {
        Edge.of(11, "A STOP", "SUM is runs more (FULL AT at most), tenths 1 more");
        JustFivePounds x = one(TENS, 500, 0, 0, 0);
        x.set(3, 25);
        ends("25", x, 25, 25, 25, 25, 25);
        tenths("25", x, 3, 4, 5, 6, 7);
        Edge.of(11, "A STOP", "a tenths more run by that NOTCH likewise");
        x = one(TENS, 10, 0, 0, 0);
        x.set(3, 25);
        ends("FULL AT 25, but late", x, 10, 20, 25, 25, 25);
        tenths("full, and late on", x, 1, 2, 3, 4, 5);
        Edge.of(11, "A STOP", "then DRIPS more (FULL AT at most)");
        for (int drips = 0; drips <= 9; drips++) {
            x.set(1, drips);
            ends(drips + " DRIPS", x, 10 + drips, Math.min(25, 20 + drips), 25, 25, 25);
            tenths(drips + " DRIPS take no tenth", x, 1, 2, 3, 4, 5);
        }
        x.set(3, 1);
        x.train(0, 0, 99);
        ends("nothing but DRIPS", x, 1, 1, 1, 1, 1);
        tenths("nothing but DRIPS", x, 0, 1, 2, 3, 4);
    }

    private static void nonePressedYet() {
        Edge.of(11, "A STOP", "the NOTCH is the one pressed last (none yet: the one by what is LACKING)");
        JustFivePounds x = one("runs 10*notch;late notch;costs off;", 60, 20, 60, 50);
        for (int a = 0; a < 5; a++) due("none pressed, 60 LACKING", x.stops(0, a, 3), 3);
        ends("by NOTCH 3", x, 0, 30, 60, 90, 120);
        often("by NOTCH 3", x, 0, 3, 3, 3, 3);
        x.train(0, 1, 60);
        for (int a = 0; a < 5; a++) due("none pressed, 60 LACKING, which it CHANGES at", x.stops(0, a, 3), 1);
        ends("by NOTCH 1", x, 0, 10, 20, 30, 40);
        often("by NOTCH 1", x, 0, 1, 1, 1, 1);
        x.train(0, 0, 59);
        x.train(0, 1, 59);
        due("pressed at 60, let go at 30 LACKING", x.stops(0, 0, 3), 3);
        x.set(3, 20);
        x.train(0, 0, 10);
        due("pressed at 60, full at 40 LACKING", x.stops(0, 0, 3), 3);
        x.set(3, 5000);
        x = one("runs 10*notch;late after=1;costs off;", 100, 20, 50, 45);
        // from 159 towards 200 none is pressed: 41 LACKING, so it is NOTCH 1, to 169
        Edge.dueBoth("on(0, 159)", x.on(0, 159, 0), x.on(0, 159, 1), 31 - 59, 1);
        // 2000 tenths towards 2400, the last at 401 LACKING, by NOTCH 3; late by it, to 2001
        due("next", one("runs 1+4*(notch=1);late after=1;costs not off=399;", 1500, 20, 0, 400).next(0), 2400);
    }

    private static void touchesEnd() {
        Edge.of(11, "A STOP", "as long as SUM is below the mark and FULL AT, a TOUCH gives any (by what is LACKING then)");
        JustFivePounds x = one(TENS, 9, 40, 99, 0);
        x.set(1, 9);
        tenths("SUM is the mark", x, 0, 1, 2, 3, 4);
        ends("SUM is the mark, then above", x, 9, 19, 29, 39, 49);
        x.set(0, 10);
        tenths("1 below the mark", x, 5, 1, 2, 3, 4);
        ends("1 below the mark", x, 10, 19, 29, 39, 49);
        x.set(0, 30);
        x.set(3, 9);
        tenths("FULL AT 9", x, 0, 1, 2, 3, 4);
        Edge.of(11, "A STOP", "SUM is so much more (FULL AT at most), tenths 5 more");
        for (int full = 10; full <= 12; full++) {
            x.set(3, full);
            ends("FULL AT " + full, x, full, full, full, full, full);
            tenths("FULL AT " + full, x, 5, 1, 2, 3, 4);
        }
        x.set(3, 13);
        tenths("FULL AT 13: a second TOUCH", x, 10, 1, 2, 3, 4);
        Edge.of(11, "A STOP", "fewer than 30 were made");
        // threes while more than 10 are LACKING, then ones: 20 and 10 TOUCHES of 70, 21 and 8 of 71, 21 and 9 of 73
        x = one(ONES, 70, 40, 99, 0);
        ends("just 30", x, 70);
        tenths("just 30", x, 150);
        x.set(0, 71);
        ends("29", x, 71);
        tenths("29", x, 145);
        x.set(0, 73);
        ends("1 is still LACKING", x, 72);
        tenths("1 is still LACKING", x, 150);
        // 99 and 98 LACKING: 30 threes; 97 .. 95: 29 and a one
        x.set(0, 99);
        ends("99", x, 90, 91, 90, 91, 92);
        tenths("99", x, 150, 151, 152, 153, 154);
    }

    private static void allIsOneAtLeast() {
        Edge.of(11, "A STOP", "For each a of 0 .. 4 tenths LATE: it is so as OFTEN as its KIND says, late telling that (of that NOTCH)");
        often("of NOTCH 2", one("runs 1;late notch+after;costs 0;", 9, 0, 0, 0), 2, 3, 4, 5, 6);
        often("of NOTCH 1", one("runs 1;late notch+after;costs 0;", 9, 10, 0, 0), 1, 2, 3, 4, 5);
        often("of NOTCH 3", one("runs 1;late notch+after;costs 0;", 9, 20, 0, 0), 0, 4, 5, 6, 7);
        Edge.of(11, "A STOP", "if that is 0, a 0 is OFTEN 1, and ALL is 1");
        for (int kind : new int[] {0, 10, 20, 40}) {
            JustFivePounds x = one("runs 10;late 0;costs off;", 20, kind, 0, 0);
            often("KIND " + kind, x, 1, 0, 0, 0, 0);
            Edge.dueBoth("ALL is 1", x.at(0, 20, 0), x.at(0, 20, 1), 1, 1);
        }
        often("a 0 of a LATE ONE is never", one("runs 10;late after=0;costs off;", 20, 20, 0, 0), 1, 0, 0, 0, 0);
        often("ALL is 1 by a 4", one("runs 10;late after=4;costs off;", 20, 0, 0, 0), 0, 0, 0, 0, 1);
        often("ALL is 4", one("runs 10;late 0;costs off;", 20, 24, 0, 0), 0, 1, 1, 1, 1);
    }

    private static void namesOfAHand() {
        Edge.of(11, "TEXTS", "notch: of runs, late the NOTCH (of costs 0); after: of late tenths LATE (of others 0); off, over as told "
                + "(0 of runs, late)");
        ends("runs", one("runs 1+20*after+20*off+20*over;late 1;costs off;", 3, 0, 0, 0), 3, 4, 5, 6, 7);
        often("late", one("runs 1;late 1+after+5*off+5*over;costs off;", 3, 0, 0, 0), 1, 2, 3, 4, 5);
        JustFivePounds x = one("runs 1;late 1;costs 7+500*notch+500*after;", 3, 0, 0, 0);
        Edge.dueBoth("mean", x.mean(0, 0), x.mean(0, 1), 7, 1);
        ends("a bound of runs", one("runs 0;late 1;costs off;", 3, 0, 0, 0), 3, 4, 5, 6, 7);
        ends("a bound of runs", one("runs 51;late 1;costs off;", 3, 0, 0, 0), 50, 100, 150, 200, 250);
    }

    private static void stopsRefuses() {
        Edge.of(11, "Of a STOP so many (0 .. 4) tenths LATE");
        JustFivePounds x = one(TENS, 500, 0, 0, 0);
        tenths("0 .. 4", x, 50, 51, 52, 53, 54);
        Edge.of(11, "-5: no such HAND; -7: after, what.");
        for (int bad : Edge.beside(0, 4)) due("after " + bad, x.stops(0, bad, 0), -7);
        for (int bad : Edge.beside(0, 3)) due("what " + bad, x.stops(0, 0, bad), -7);
        for (int bad : Edge.beside(0, 0)) {
            due("HAND " + bad, x.stops(bad, 0, 0), -5);
            due("-5 is told first", x.stops(bad, 5, 0), -5);
            due("-5 is told first", x.stops(bad, 0, 4), -5);
        }
    }

    // ---- promises 12 to 15: chance, mean, time, at

    private static void chance(JustFivePounds x, int sort, long above, long below) {
        Edge.dueBoth("chance(0, " + sort + ")", x.chance(0, sort, 0), x.chance(0, sort, 1), above, below);
    }

    private static void justAboveBelow() {
        Edge.of(12, "END is MARK (sort 0), above (1), below it (2)");
        // 1 .. 5, by 1 more LETS go at 1
        JustFivePounds x = one(ONES, 2, 0, 1, 0);
        chance(x, 0, 1, 5);
        chance(x, 1, 3, 5);
        chance(x, 2, 1, 5);
        x.set(1, 2);
        chance(x, 0, 0, 1);
        chance(x, 1, 1, 1);
        chance(x, 2, 0, 1);
        x.set(1, 0);
        x.set(3, 2);
        chance(x, 0, 4, 5);
        chance(x, 1, 0, 1);
        chance(x, 2, 1, 5);
        Edge.of(12, "part 0 above, 1 below the line, in lowest terms");
        x = one("runs 1;late 2*(after<3);costs off;", 2, 0, 1, 0);
        for (int sort = 0; sort < 3; sort++) chance(x, sort, 1, 3);
        x.set(0, 1);
        chance(x, 0, 1, 3);
        chance(x, 1, 1, 3);
        x.train(0, 0, 0);
        chance(x, 0, 1, 3);
        chance(x, 1, 2, 3);
        chance(x, 2, 0, 1);
        x.set(3, 1);
        chance(x, 0, 1, 1);
        chance(x, 1, 0, 1);
        chance(x, 2, 0, 1);
        Edge.of(12, "NO: none such.");
        for (int bad : Edge.beside(0, 0)) for (int sort = 0; sort < 3; sort++) due("HAND " + bad, x.chance(bad, sort, 0), NO);
        for (int bad : Edge.beside(0, 2)) due("sort " + bad, x.chance(0, bad, 0), NO);
        for (int bad : Edge.beside(0, 1)) for (int sort = 0; sort < 3; sort++) due("part " + bad, x.chance(0, sort, bad), NO);
    }

    private static void mean(String of, JustFivePounds x, long above, long below) {
        Edge.dueBoth(of + ", mean", x.mean(0, 0), x.mean(0, 1), above, below);
    }

    private static void costsOfASum() {
        Edge.of(13, "COST", "off: how far the sum and the mark are apart, 999 at most; over: 1, if it is above, else 0; notch 0");
        for (int full = 1000; full <= 1003; full++) {
            JustFivePounds x = one("runs 50;late after=0;costs off-500;", 2000, 0, 0, 0);
            x.set(3, full);
            mean(2000 - full + " apart", x, full == 1000 ? 499 : 1500 - full, 1);
        }
        JustFivePounds x = one("runs 50;late after=0;costs off+500*over;", 49, 0, 0, 0);
        mean("1 above", x, 501, 1);
        x.set(0, 50);
        mean("the mark", x, 0, 1);
        x.set(0, 51);
        x.train(0, 0, 1);
        mean("1 below", x, 1, 1);
        mean("notch", one("runs 50;late after=0;costs 3+notch*100;", 49, 0, 0, 0), 3, 1);
        mean("the bound", one("runs 50;late after=0;costs 1000+off;", 50, 0, 0, 0), 999, 1);
        mean("the bound", one("runs 50;late after=0;costs 0-off;", 49, 0, 0, 0), 0, 1);
        Edge.of(13, "NO: none such.");
        for (int bad : Edge.beside(0, 0)) due("HAND " + bad, x.mean(bad, 0), NO);
        for (int bad : Edge.beside(0, 1)) due("part " + bad, x.mean(0, bad), NO);
    }

    private static void likewiseInLowestTerms() {
        JustFivePounds x = one("runs 10;late 4-after;costs off;", 500, 0, 0, 0);
        Edge.of(13, "COST IN THE MEAN likewise.");
        // 0, 10, 20, 30 of 4, 3, 2, 1: 100 by 10
        mean("100 by 10", x, 10, 1);
        mean("2 by 4", one("runs 1;late 1+(after=0)*-1;costs after=0 and off=1;", 1, 0, 0, 0), 1, 4);
        mean("0 by 5", one("runs 1;late 1;costs 0;", 1, 0, 0, 0), 0, 1);
        Edge.of(14, "TENTHS IN THE MEAN likewise.");
        Edge.dueBoth("510 by 10", x.time(0, 0), x.time(0, 1), 51, 1);
        JustFivePounds y = one("runs 10;late after<2;costs off;", 500, 0, 99, 0);
        Edge.dueBoth("41 and 42 of two", y.time(0, 0), y.time(0, 1), 83, 2);
        y = one("runs 10;late after=0;costs off;", 5, 0, 99, 0);
        Edge.dueBoth("none at all", y.time(0, 0), y.time(0, 1), 0, 1);
        Edge.of(14, "NO: none such.");
        for (int bad : Edge.beside(0, 0)) due("HAND " + bad, x.time(bad, 0), NO);
        for (int bad : Edge.beside(0, 1)) due("part " + bad, x.time(0, bad), NO);
        Edge.of(15, "END is a sum (0 .. 5000), likewise.");
        Edge.dueBoth("at 510", x.at(0, 510, 0), x.at(0, 510, 1), 3, 10);
        Edge.dueBoth("at 520", x.at(0, 520, 0), x.at(0, 520, 1), 1, 5);
        Edge.dueBoth("at 0", x.at(0, 0, 0), x.at(0, 0, 1), 0, 1);
        Edge.dueBoth("at 5000", x.at(0, 5000, 0), x.at(0, 5000, 1), 0, 1);
        Edge.dueBoth("at 540, never", x.at(0, 540, 0), x.at(0, 540, 1), 0, 1);
        y = one(SURE_ONES, 99, 0, 99, 0);
        Edge.dueBoth("at 0, always", y.at(0, 0, 0), y.at(0, 0, 1), 1, 1);
        Edge.of(15, "NO: none such.");
        for (int bad : Edge.beside(0, 5000)) due("sum " + bad, x.at(0, bad, 0), NO);
        for (int bad : Edge.beside(0, 0)) due("HAND " + bad, x.at(bad, 0, 0), NO);
        for (int bad : Edge.beside(0, 1)) due("part " + bad, x.at(0, 0, bad), NO);
    }

    // ---- promises 16 to 20: what is best

    private static void aheadIsWithinItsLimits() {
        Edge.of(16, "AHEAD (0 .. 99) by which, were it so");
        JustFivePounds x = one(SURE_ONES, 500, 0, 50, 0);
        for (int goal = 0; goal < 2; goal++) due("0 is asked, goal " + goal, x.ahead(0, goal), 0);
        // 99 AHEAD lets go at 49, 98 and late are 147, and a drip is; 98 AHEAD lets go at 98 first
        x = one("runs 49;late after=2;costs off;", 148, 0, 50, 0);
        x.set(1, 1);
        for (int goal = 0; goal < 2; goal++) due("99 is asked, goal " + goal, x.ahead(0, goal), 99);
        due("it LETS go as it did", x.told(0, 2), 50);
        // 440 by forties till 60 are LACKING, then by fours, and one late
        x = one("runs 4+36*(notch=3);late after=1;costs off;", 500, 23, 50, 60);
        for (int goal = 0; goal < 2; goal++) due("its KIND, CHANGES stay", x.ahead(0, goal), 4);
        // 5 and MORE a tenth: eights
        x = one("runs 5+more;late after=1;costs off;", 496, 3, 50, 0);
        for (int goal = 0; goal < 2; goal++) due("its MORE stays", x.ahead(0, goal), 8);
        Edge.of(16, "of like ones the least");
        due("all are like, by COST", one("runs 1;late 1;costs 5;", 500, 0, 50, 0).ahead(0, 0), 0);
        x = one(TENS, 501, 0, 50, 0);
        due("all are like: never just", x.ahead(0, 1), 0);
        x = one(SURE_TENS, 500, 0, 50, 0);
        x.set(1, 5);
        // 0 .. 9 end at 505, 10 .. 19 at 495
        due("0 .. 19 are 5 off", x.ahead(0, 0), 0);
        x.set(1, 6);
        due("10 .. 19 are 4 off", x.ahead(0, 0), 10);
        x.set(0, 506);
        // 6 LACKING or fewer: 0 .. 5 press on
        due("6 .. 15 are just", x.ahead(0, 1), 6);
        Edge.of(16, "-5: no such HAND; -7: goal.");
        for (int bad : Edge.beside(0, 1)) due("goal " + bad, x.ahead(0, bad), -7);
        for (int bad : Edge.beside(0, 0)) {
            due("HAND " + bad, x.ahead(bad, 0), -5);
            due("-5 is told first", x.ahead(bad, 2), -5);
        }
    }

    private static void changeIsWithinItsLimits() {
        Edge.of(17, "CHANGES 0, 10, .. 500 by which, were it so");
        // NOTCH 3 is the slow one here; never just
        JustFivePounds x = one("runs 10-9*(notch=3);late 1;costs off;", 500, 20, 0, 250);
        x.set(1, 1);
        due("500 is asked", x.change(0, 1), 500);
        x = one("runs 10;late 1;costs off;", 500, 20, 0, 250);
        for (int goal = 0; goal < 2; goal++) due("0 is asked", x.change(0, goal), 0);
        due("it CHANGES as it did", x.told(0, 3), 250);
        // by thirties and, late, by ten: just from 490 on, where 20 .. 49 CHANGE it
        x = one("runs notch*10;late after=1;costs off;", 500, 20, 10, 45);
        due("tens alone are asked: 20 .. 49 are just", x.change(0, 0), 20);
        Edge.of(17, "END is MARK no less likely than now");
        due("just now: 0, 10 are quicker, but are not", x.change(0, 1), 20);
        x.train(0, 1, 15);
        due("not just now: all may be", x.change(0, 1), 0);
        Edge.of(17, "of like ones the least; -1: none.");
        due("all are like", one(SURE_ONES, 500, 0, 0, 250).change(0, 0), 0);
        due("all are like", one(SURE_ONES, 500, 0, 0, 250).change(0, 1), 0);
        // 448 by sevens, 488 by tens, 498 late, and 2 drip; so with none of the tens
        x = one("runs 10-3*(notch=3);late after=1;costs off;", 500, 20, 12, 55);
        x.set(1, 2);
        ends("just at 55", x, 490, 500);
        due("none of those asked is just", x.change(0, 1), -1);
        due("by COST there is always one", x.change(0, 0) >= 0 ? 1 : 0, 1);
        Edge.of(17, "-5, -7 likewise.");
        for (int bad : Edge.beside(0, 1)) due("goal " + bad, x.change(0, bad), -7);
        for (int bad : Edge.beside(0, 0)) {
            due("HAND " + bad, x.change(bad, 0), -5);
            due("-5 is told first", x.change(bad, 2), -5);
        }
    }

    private static void whoMayBeNobody() {
        Edge.of(18, "-1: there are none (an answer, asked behind BAD). BAD.");
        JustFivePounds x = Due.by(TENS);
        x.set(1, 0);
        for (int goal = 0; goal < 3; goal++) due("who(" + goal + "), there being none", x.who(goal), -1);
        for (int bad : Edge.beside(0, 2)) due("BAD, though there are none", x.who(bad), -2);
        x.hand(0, 30, 0);
        for (int goal = 0; goal < 3; goal++) due("who(" + goal + ") of one", x.who(goal), 0);
        for (int bad : Edge.beside(0, 2)) due("who(" + bad + ")", x.who(bad), -2);
        Edge.of(18, "of like ones the first");
        for (int h = 1; h < 5; h++) x.hand(0, 30, 0);
        for (int goal = 0; goal < 3; goal++) due("five alike", x.who(goal), 0);
        x.train(4, 0, 20);
        x.train(3, 0, 20);
        // 480 .. 520 cost less than 470 .. 510; they take longer, and are just as likely
        due("least COST, the first of two", x.who(0), 3);
        due("fewest TENTHS, the first of three", x.who(1), 0);
        due("likeliest just, the first of five", x.who(2), 0);
        x.train(0, 0, 0);
        x.train(1, 0, 99);
        due("fewest TENTHS", x.who(1), 1);
        due("likeliest just: not 401 .. 441", x.who(2), 0);
    }

    private static void nextIsTheLeastOfTen() {
        Edge.of(19, "Of marks MARK, and 100, 200, .. 900 more");
        JustFivePounds x = one("runs 1;late after=0;costs 999-off;", 1, 0, 0, 0);
        x.set(3, 1);
        due("900 more is farthest from 1", x.next(0), 901);
        x = one("runs 1;late after=0;costs off;", 7, 0, 0, 0);
        x.set(3, 1);
        due("MARK is nearest to 1", x.next(0), 7);
        x.set(3, 5000);
        Edge.of(19, "of like ones the least");
        due("each is just", x.next(0), 7);
        x = one("runs 12;late after=0;costs off;", 500, 0, 0, 0);
        x.set(1, 1);
        // 505, 601, .., 901: 600 and 900 are 1 off
        due("600 and 900 alike", x.next(0), 600);
        Edge.of(19, "-5: no such HAND.");
        for (int bad : Edge.beside(0, 0)) due("HAND " + bad, x.next(bad), -5);
    }

    private static void on(JustFivePounds x, int end, long above, long below) {
        Edge.dueBoth("on(0, " + end + ")", x.on(0, end, 0), x.on(0, end, 1), above, below);
    }

    private static void onToTheNextHundred() {
        Edge.of(20, "towards the next hundred above a sum (0 .. 5000), SUM being that one at first");
        JustFivePounds x = one(SURE_TENS, 500, 0, 0, 0);
        x.set(1, 1);
        on(x, 0, 1 - 500, 1);
        on(x, 99, 10 - 401, 1);
        on(x, 100, 1 - 400, 1);
        on(x, 101, 2 - 399, 1);
        on(x, 500, 1, 1);
        // FULL AT 5000 as it is: 5000 is 100 off
        on(x, 5000, 100 - 999, 1);
        on(x, 4999, 0 - 999, 1);
        on(x, 4900, 0 - 999, 1);
        Edge.of(20, "A STOP", "SUM is 0 (but where it is told, FULL AT at most), tenths 0");
        x.set(3, 350);
        on(x, 450, 150 - 50, 1);
        on(x, 350, 50 - 150, 1);
        on(x, 349, 50 - 151, 1);
        x.set(3, 5000);
        Edge.of(20, "part 0 above (below 0, if it is), 1 below the line, in lowest terms");
        x = one("runs 10;late 3-after;costs off;", 500, 0, 0, 0);
        x.set(1, 1);
        // 501, 511, 521 of 3, 2, 1: 46 by 6
        on(x, 490, 23 - 30, 3);
        // 510, 520, 530: 100 by 6
        on(x, 499, 50 - 3, 3);
        on(x, 430, 23 - 210, 3);
        x = one("runs 10;late 1;costs 5;", 500, 0, 0, 0);
        on(x, 77, 0, 1);
        Edge.of(20, "NO: none such.");
        for (int bad : Edge.beside(0, 5000)) due("sum " + bad, x.on(0, bad, 0), NO);
        for (int bad : Edge.beside(0, 0)) due("HAND " + bad, x.on(bad, 0, 0), NO);
        for (int bad : Edge.beside(0, 1)) due("part " + bad, x.on(0, 0, bad), NO);
    }

    // ---- promises 21 to 24: both, full, spread, alike

    private static void bothIsAThousandMoreAtMost() {
        Edge.of(21, "The first sum from one (0 .. 5000) on, 1000 more at most, that by (1 .. 100) divides");
        JustFivePounds x = new JustFivePounds();
        x.set(2, 64);
        // 75 divides, and 16: each 1200
        due("both(4800, 75)", x.both(4800, 75), 4800);
        due("1199 more", x.both(4801, 75), -1);
        due("1001 more", x.both(4999, 75), -1);
        due("1000 more", x.both(5000, 75), 6000);
        due("0 itself", x.both(0, 75), 0);
        due("199 .. 1000 more", x.both(200, 75), 1200);
        x.set(2, 1);
        due("by 1", x.both(4999, 1), 4999);
        due("by 100", x.both(4901, 100), 5000);
        x.set(2, 99);
        due("PRICE 99", x.both(1, 1), 99);
        Edge.of(21, "-1: none. BAD.");
        due("9900 is the first", x.both(1, 100), -1);
        for (int bad : Edge.beside(0, 5000)) due("both(" + bad + ", 1)", x.both(bad, 1), -2);
        for (int bad : Edge.beside(1, 100)) due("both(0, " + bad + ")", x.both(0, bad), -2);
    }

    private static void full(JustFivePounds x, int sort, long above, long below) {
        Edge.dueBoth("full(0, " + sort + ")", x.full(0, sort, 0), x.full(0, sort, 1), above, below);
    }

    private static void fullIsBelowMarkOrNot() {
        Edge.of(22, "END is FULL AT, that being below MARK (sort 0), or not (1), likewise.");
        JustFivePounds x = one(TENS, 500, 0, 0, 0);
        int[] fulls = {499, 500, 501, 510, 511, 541, 5000};
        long[] above = {1, 1, 4, 4, 3, 0, 0}, below = {1, 1, 5, 5, 5, 1, 1};
        for (int i = 0; i < fulls.length; i++) {
            x.set(3, fulls[i]);
            full(x, 0, fulls[i] < 500 ? above[i] : 0, fulls[i] < 500 ? below[i] : 1);
            full(x, 1, fulls[i] < 500 ? 0 : above[i], fulls[i] < 500 ? 1 : below[i]);
        }
        Edge.of(22, "NO: none such.");
        for (int sort = 0; sort < 2; sort++) {
            for (int bad : Edge.beside(0, 0)) due("HAND " + bad, x.full(bad, sort, 0), NO);
            for (int bad : Edge.beside(0, 1)) due("part " + bad, x.full(0, sort, bad), NO);
        }
        for (int bad : Edge.beside(0, 1)) due("sort " + bad, x.full(0, bad, 0), NO);
    }

    private static void spreadIsOfThoseOften() {
        Edge.of(23, "of those that are OFTEN above 0");
        for (int first = 0; first < 5; first++) {
            for (int last = first; last < 5; last++) {
                String law = "runs 10;late not after<" + first + " and after<" + (last + 1) + ";costs off;";
                due("a " + first + " .. " + last, one(law, 500, 0, 0, 0).spread(0), 10 * (last - first));
            }
        }
        due("a 0 of a LATE ONE is never", one(TENS, 500, 20, 0, 0).spread(0), 30);
        due("none: a 0 alone", one("runs 10;late 0;costs off;", 500, 0, 0, 0).spread(0), 0);
        due("END 0 alone", one(SURE_TENS, 99, 0, 99, 0).spread(0), 0);
        JustFivePounds full = one("runs 50;late after=0;costs off;", 2000, 0, 0, 0);
        full.set(3, 1);
        due("END 1 alone", full.spread(0), 0);
        Edge.of(23, "-5: no such HAND.");
        for (int bad : Edge.beside(0, 0)) due("HAND " + bad, one(TENS, 500, 0, 0, 0).spread(bad), -5);
    }

    private static void alikeIsOfOneToFour() {
        Edge.of(24, "of n (1 .. 4) STOPS, each by itself, all END alike, likewise.");
        JustFivePounds x = one("runs 10;late after<2;costs off;", 500, 0, 0, 0);
        for (int n = 1; n <= 4; n++) Edge.dueBoth("alike " + n, x.alike(0, n, 0), x.alike(0, n, 1), 1, 1 << n - 1);
        x.set(3, 500);
        for (int n = 1; n <= 4; n++) Edge.dueBoth("one END", x.alike(0, n, 0), x.alike(0, n, 1), 1, 1);
        // the most OFTEN of all: 1, 4, 7, 10, 13 of 35
        x = one(TENS, 500, 59, 0, 0);
        Edge.dueBoth("of 35", x.alike(0, 4, 0), x.alike(0, 4, 1), 1 + 256 + 2401 + 10000 + 28561, 35 * 35 * 35 * 35);
        Edge.of(24, "NO: none such.");
        for (int bad : Edge.beside(1, 4)) due("n " + bad, x.alike(0, bad, 0), NO);
        for (int bad : Edge.beside(0, 0)) due("HAND " + bad, x.alike(bad, 1, 0), NO);
        for (int bad : Edge.beside(0, 1)) due("part " + bad, x.alike(0, 1, bad), NO);
    }

    public static void main(String[] args) {
        aLateOneChanges();
        kindsAreLateSoOften();
        aTouchGivesSoMuch();
        itPressesSoLong();
        sumIsFullAtAtMost();
        nonePressedYet();
        touchesEnd();
        allIsOneAtLeast();
        namesOfAHand();
        stopsRefuses();
        justAboveBelow();
        costsOfASum();
        likewiseInLowestTerms();
        aheadIsWithinItsLimits();
        changeIsWithinItsLimits();
        whoMayBeNobody();
        nextIsTheLeastOfTen();
        onToTheNextHundred();
        bothIsAThousandMoreAtMost();
        fullIsBelowMarkOrNot();
        spreadIsOfThoseOften();
        alikeIsOfOneToFour();
        Edge.allTold(11, 24, "KINDS", "A STOP", "COST", "LIKELY");
        Due.end("EdgeStopTest");
    }
}
